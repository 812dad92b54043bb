section
-- ===== PART A: goes FIRST, ahead of the names: the tables' words, and 'selects' of the private methods out of them =====
/-- a private method of a class that the tables say can be made, by its rows of tables_1 -/
def lw_okq (q : MethodName × Nat) : Prop := (q.1.cls ≠ "java/lang/invoke/MethodHandle" ∧ q.1.cls ≠ "java/lang/invoke/VarHandle") ∧ Cond.instantiable q.1.cls q.2 ∈ tables_1 ∧ Cond.privateMethod q.1 ∈ tables_1 ∧ Cond.instanceMethod q.1 ∈ tables_1
theorem lw_p0 : lw_okq (⟨"HammockReach", "finds", "(I)I"⟩, 10) := ⟨⟨by decide +kernel, by decide +kernel⟩, List.mem_of_getElem? (i := 12) (by decide +kernel), List.mem_of_getElem? (i := 218) (by decide +kernel), List.mem_of_getElem? (i := 219) (by decide +kernel)⟩
theorem lw_p1 : lw_okq (⟨"HammockReach$Tape", "readLaw", "(LHammockReach$Forest;)Z"⟩, 4) := ⟨⟨by decide +kernel, by decide +kernel⟩, List.mem_of_getElem? (i := 22) (by decide +kernel), List.mem_of_getElem? (i := 267) (by decide +kernel), List.mem_of_getElem? (i := 268) (by decide +kernel)⟩
theorem lw_p2 : lw_okq (⟨"HammockReach$Tape", "readSign", "(I)Z"⟩, 4) := ⟨⟨by decide +kernel, by decide +kernel⟩, List.mem_of_getElem? (i := 22) (by decide +kernel), List.mem_of_getElem? (i := 271) (by decide +kernel), List.mem_of_getElem? (i := 272) (by decide +kernel)⟩
theorem lw_p3 : lw_okq (⟨"HammockReach$Tape", "byteAt", "(I)I"⟩, 4) := ⟨⟨by decide +kernel, by decide +kernel⟩, List.mem_of_getElem? (i := 22) (by decide +kernel), List.mem_of_getElem? (i := 275) (by decide +kernel), List.mem_of_getElem? (i := 276) (by decide +kernel)⟩
theorem lw_p4 : lw_okq (⟨"HammockReach$Tape", "refuse", "(I)Z"⟩, 4) := ⟨⟨by decide +kernel, by decide +kernel⟩, List.mem_of_getElem? (i := 22) (by decide +kernel), List.mem_of_getElem? (i := 280) (by decide +kernel), List.mem_of_getElem? (i := 281) (by decide +kernel)⟩
theorem lw_p5 : lw_okq (⟨"HammockReach$Tape", "readNumber", "(II)I"⟩, 4) := ⟨⟨by decide +kernel, by decide +kernel⟩, List.mem_of_getElem? (i := 22) (by decide +kernel), List.mem_of_getElem? (i := 284) (by decide +kernel), List.mem_of_getElem? (i := 285) (by decide +kernel)⟩
theorem lw_p6 : lw_okq (⟨"HammockReach$Tape", "readHammock", "(LHammockReach$Forest;)Z"⟩, 4) := ⟨⟨by decide +kernel, by decide +kernel⟩, List.mem_of_getElem? (i := 22) (by decide +kernel), List.mem_of_getElem? (i := 291) (by decide +kernel), List.mem_of_getElem? (i := 292) (by decide +kernel)⟩
theorem lw_p7 : lw_okq (⟨"HammockReach$Tape", "readTrees", "(LHammockReach$Forest;I)Z"⟩, 4) := ⟨⟨by decide +kernel, by decide +kernel⟩, List.mem_of_getElem? (i := 22) (by decide +kernel), List.mem_of_getElem? (i := 298) (by decide +kernel), List.mem_of_getElem? (i := 299) (by decide +kernel)⟩
theorem lw_p8 : lw_okq (⟨"HammockReach$Tape", "readLoad", "(LHammockReach$Forest;I)Z"⟩, 4) := ⟨⟨by decide +kernel, by decide +kernel⟩, List.mem_of_getElem? (i := 22) (by decide +kernel), List.mem_of_getElem? (i := 302) (by decide +kernel), List.mem_of_getElem? (i := 303) (by decide +kernel)⟩
theorem lw_p9 : lw_okq (⟨"HammockReach", "isHammock", "(I)Z"⟩, 10) := ⟨⟨by decide +kernel, by decide +kernel⟩, List.mem_of_getElem? (i := 12) (by decide +kernel), List.mem_of_getElem? (i := 349) (by decide +kernel), List.mem_of_getElem? (i := 350) (by decide +kernel)⟩
theorem lw_p10 : lw_okq (⟨"HammockReach$Forest", "offset", "(II)I"⟩, 11) := ⟨⟨by decide +kernel, by decide +kernel⟩, List.mem_of_getElem? (i := 46) (by decide +kernel), List.mem_of_getElem? (i := 357) (by decide +kernel), List.mem_of_getElem? (i := 358) (by decide +kernel)⟩
theorem lw_p11 : lw_okq (⟨"HammockReach", "areTwo", "(II)Z"⟩, 10) := ⟨⟨by decide +kernel, by decide +kernel⟩, List.mem_of_getElem? (i := 12) (by decide +kernel), List.mem_of_getElem? (i := 421) (by decide +kernel), List.mem_of_getElem? (i := 422) (by decide +kernel)⟩
theorem lw_p12 : lw_okq (⟨"HammockReach$Outlook", "link", "(LHammockReach$Forest;II)V"⟩, 4) := ⟨⟨by decide +kernel, by decide +kernel⟩, List.mem_of_getElem? (i := 139) (by decide +kernel), List.mem_of_getElem? (i := 437) (by decide +kernel), List.mem_of_getElem? (i := 438) (by decide +kernel)⟩
theorem lw_p13 : lw_okq (⟨"HammockReach$Outlook", "spread", "(III)I"⟩, 4) := ⟨⟨by decide +kernel, by decide +kernel⟩, List.mem_of_getElem? (i := 139) (by decide +kernel), List.mem_of_getElem? (i := 446) (by decide +kernel), List.mem_of_getElem? (i := 447) (by decide +kernel)⟩
theorem lw_p14 : lw_okq (⟨"HammockReach", "fittingKinds", "(ILHammockReach$Row;II)I"⟩, 10) := ⟨⟨by decide +kernel, by decide +kernel⟩, List.mem_of_getElem? (i := 12) (by decide +kernel), List.mem_of_getElem? (i := 483) (by decide +kernel), List.mem_of_getElem? (i := 484) (by decide +kernel)⟩
theorem lw_p15 : lw_okq (⟨"HammockReach", "wasThere", "(ILHammockReach$Row;II)Z"⟩, 10) := ⟨⟨by decide +kernel, by decide +kernel⟩, List.mem_of_getElem? (i := 12) (by decide +kernel), List.mem_of_getElem? (i := 487) (by decide +kernel), List.mem_of_getElem? (i := 488) (by decide +kernel)⟩
def lw_privs_1 : List (MethodName × Nat) := [(⟨"HammockReach", "finds", "(I)I"⟩, 10), (⟨"HammockReach$Tape", "readLaw", "(LHammockReach$Forest;)Z"⟩, 4), (⟨"HammockReach$Tape", "readSign", "(I)Z"⟩, 4), (⟨"HammockReach$Tape", "byteAt", "(I)I"⟩, 4), (⟨"HammockReach$Tape", "refuse", "(I)Z"⟩, 4), (⟨"HammockReach$Tape", "readNumber", "(II)I"⟩, 4), (⟨"HammockReach$Tape", "readHammock", "(LHammockReach$Forest;)Z"⟩, 4), (⟨"HammockReach$Tape", "readTrees", "(LHammockReach$Forest;I)Z"⟩, 4), (⟨"HammockReach$Tape", "readLoad", "(LHammockReach$Forest;I)Z"⟩, 4), (⟨"HammockReach", "isHammock", "(I)Z"⟩, 10), (⟨"HammockReach$Forest", "offset", "(II)I"⟩, 11), (⟨"HammockReach", "areTwo", "(II)Z"⟩, 10), (⟨"HammockReach$Outlook", "link", "(LHammockReach$Forest;II)V"⟩, 4), (⟨"HammockReach$Outlook", "spread", "(III)I"⟩, 4), (⟨"HammockReach", "fittingKinds", "(ILHammockReach$Row;II)I"⟩, 10), (⟨"HammockReach", "wasThere", "(ILHammockReach$Row;II)Z"⟩, 10)]
theorem lw_r1 : ∀ q ∈ lw_privs_1, lw_okq q := List.forall_mem_cons.mpr ⟨lw_p0, List.forall_mem_cons.mpr ⟨lw_p1, List.forall_mem_cons.mpr ⟨lw_p2, List.forall_mem_cons.mpr ⟨lw_p3, List.forall_mem_cons.mpr ⟨lw_p4, List.forall_mem_cons.mpr ⟨lw_p5, List.forall_mem_cons.mpr ⟨lw_p6, List.forall_mem_cons.mpr ⟨lw_p7, List.forall_mem_cons.mpr ⟨lw_p8, List.forall_mem_cons.mpr ⟨lw_p9, List.forall_mem_cons.mpr ⟨lw_p10, List.forall_mem_cons.mpr ⟨lw_p11, List.forall_mem_cons.mpr ⟨lw_p12, List.forall_mem_cons.mpr ⟨lw_p13, List.forall_mem_cons.mpr ⟨lw_p14, List.forall_mem_cons.mpr ⟨lw_p15, fun _ h => absurd h List.not_mem_nil⟩⟩⟩⟩⟩⟩⟩⟩⟩⟩⟩⟩⟩⟩⟩⟩
theorem lw_p16 : lw_okq (⟨"HammockReach", "fittingSwings", "(ILHammockReach$Row;II)I"⟩, 10) := ⟨⟨by decide +kernel, by decide +kernel⟩, List.mem_of_getElem? (i := 12) (by decide +kernel), List.mem_of_getElem? (i := 491) (by decide +kernel), List.mem_of_getElem? (i := 492) (by decide +kernel)⟩
theorem lw_p17 : lw_okq (⟨"HammockReach", "fittingWeights", "(ILHammockReach$Row;II)I"⟩, 10) := ⟨⟨by decide +kernel, by decide +kernel⟩, List.mem_of_getElem? (i := 12) (by decide +kernel), List.mem_of_getElem? (i := 495) (by decide +kernel), List.mem_of_getElem? (i := 496) (by decide +kernel)⟩
theorem lw_p18 : lw_okq (⟨"HammockReach", "wasReached", "(ILHammockReach$Row;II)Z"⟩, 10) := ⟨⟨by decide +kernel, by decide +kernel⟩, List.mem_of_getElem? (i := 12) (by decide +kernel), List.mem_of_getElem? (i := 499) (by decide +kernel), List.mem_of_getElem? (i := 500) (by decide +kernel)⟩
theorem lw_p19 : lw_okq (⟨"HammockReach", "partsOf", "(II)I"⟩, 10) := ⟨⟨by decide +kernel, by decide +kernel⟩, List.mem_of_getElem? (i := 12) (by decide +kernel), List.mem_of_getElem? (i := 507) (by decide +kernel), List.mem_of_getElem? (i := 508) (by decide +kernel)⟩
theorem lw_p20 : lw_okq (⟨"HammockReach", "partsOfAll", "()I"⟩, 10) := ⟨⟨by decide +kernel, by decide +kernel⟩, List.mem_of_getElem? (i := 12) (by decide +kernel), List.mem_of_getElem? (i := 511) (by decide +kernel), List.mem_of_getElem? (i := 512) (by decide +kernel)⟩
theorem lw_p21 : lw_okq (⟨"HammockReach", "answer", "(III)I"⟩, 10) := ⟨⟨by decide +kernel, by decide +kernel⟩, List.mem_of_getElem? (i := 12) (by decide +kernel), List.mem_of_getElem? (i := 543) (by decide +kernel), List.mem_of_getElem? (i := 544) (by decide +kernel)⟩
theorem lw_p22 : lw_okq (⟨"HammockReach", "body", "(III)I"⟩, 10) := ⟨⟨by decide +kernel, by decide +kernel⟩, List.mem_of_getElem? (i := 12) (by decide +kernel), List.mem_of_getElem? (i := 554) (by decide +kernel), List.mem_of_getElem? (i := 555) (by decide +kernel)⟩
theorem lw_p23 : lw_okq (⟨"HammockReach", "countRows", "()I"⟩, 10) := ⟨⟨by decide +kernel, by decide +kernel⟩, List.mem_of_getElem? (i := 12) (by decide +kernel), List.mem_of_getElem? (i := 566) (by decide +kernel), List.mem_of_getElem? (i := 567) (by decide +kernel)⟩
theorem lw_p24 : lw_okq (⟨"HammockReachModel", "found", "(I)I"⟩, 23) := ⟨⟨by decide +kernel, by decide +kernel⟩, List.mem_of_getElem? (i := 580) (by decide +kernel), List.mem_of_getElem? (i := 670) (by decide +kernel), List.mem_of_getElem? (i := 671) (by decide +kernel)⟩
theorem lw_p25 : lw_okq (⟨"HammockReachModel", "well", "(I)I"⟩, 23) := ⟨⟨by decide +kernel, by decide +kernel⟩, List.mem_of_getElem? (i := 580) (by decide +kernel), List.mem_of_getElem? (i := 675) (by decide +kernel), List.mem_of_getElem? (i := 676) (by decide +kernel)⟩
theorem lw_p26 : lw_okq (⟨"HammockReachModel", "reads", "()Z"⟩, 23) := ⟨⟨by decide +kernel, by decide +kernel⟩, List.mem_of_getElem? (i := 580) (by decide +kernel), List.mem_of_getElem? (i := 701) (by decide +kernel), List.mem_of_getElem? (i := 702) (by decide +kernel)⟩
theorem lw_p27 : lw_okq (⟨"HammockReachModel", "step", "()V"⟩, 23) := ⟨⟨by decide +kernel, by decide +kernel⟩, List.mem_of_getElem? (i := 580) (by decide +kernel), List.mem_of_getElem? (i := 705) (by decide +kernel), List.mem_of_getElem? (i := 706) (by decide +kernel)⟩
theorem lw_p28 : lw_okq (⟨"HammockReachModel", "here", "()I"⟩, 23) := ⟨⟨by decide +kernel, by decide +kernel⟩, List.mem_of_getElem? (i := 580) (by decide +kernel), List.mem_of_getElem? (i := 709) (by decide +kernel), List.mem_of_getElem? (i := 710) (by decide +kernel)⟩
theorem lw_p29 : lw_okq (⟨"HammockReachModel", "fails", "(I)Z"⟩, 23) := ⟨⟨by decide +kernel, by decide +kernel⟩, List.mem_of_getElem? (i := 580) (by decide +kernel), List.mem_of_getElem? (i := 717) (by decide +kernel), List.mem_of_getElem? (i := 718) (by decide +kernel)⟩
theorem lw_p30 : lw_okq (⟨"HammockReachModel", "number", "(IIII)Z"⟩, 23) := ⟨⟨by decide +kernel, by decide +kernel⟩, List.mem_of_getElem? (i := 580) (by decide +kernel), List.mem_of_getElem? (i := 721) (by decide +kernel), List.mem_of_getElem? (i := 722) (by decide +kernel)⟩
theorem lw_p31 : lw_okq (⟨"HammockReachModel", "readsHammock", "()Z"⟩, 23) := ⟨⟨by decide +kernel, by decide +kernel⟩, List.mem_of_getElem? (i := 580) (by decide +kernel), List.mem_of_getElem? (i := 725) (by decide +kernel), List.mem_of_getElem? (i := 726) (by decide +kernel)⟩
def lw_privs_2 : List (MethodName × Nat) := [(⟨"HammockReach", "fittingSwings", "(ILHammockReach$Row;II)I"⟩, 10), (⟨"HammockReach", "fittingWeights", "(ILHammockReach$Row;II)I"⟩, 10), (⟨"HammockReach", "wasReached", "(ILHammockReach$Row;II)Z"⟩, 10), (⟨"HammockReach", "partsOf", "(II)I"⟩, 10), (⟨"HammockReach", "partsOfAll", "()I"⟩, 10), (⟨"HammockReach", "answer", "(III)I"⟩, 10), (⟨"HammockReach", "body", "(III)I"⟩, 10), (⟨"HammockReach", "countRows", "()I"⟩, 10), (⟨"HammockReachModel", "found", "(I)I"⟩, 23), (⟨"HammockReachModel", "well", "(I)I"⟩, 23), (⟨"HammockReachModel", "reads", "()Z"⟩, 23), (⟨"HammockReachModel", "step", "()V"⟩, 23), (⟨"HammockReachModel", "here", "()I"⟩, 23), (⟨"HammockReachModel", "fails", "(I)Z"⟩, 23), (⟨"HammockReachModel", "number", "(IIII)Z"⟩, 23), (⟨"HammockReachModel", "readsHammock", "()Z"⟩, 23)]
theorem lw_r2 : ∀ q ∈ lw_privs_2, lw_okq q := List.forall_mem_cons.mpr ⟨lw_p16, List.forall_mem_cons.mpr ⟨lw_p17, List.forall_mem_cons.mpr ⟨lw_p18, List.forall_mem_cons.mpr ⟨lw_p19, List.forall_mem_cons.mpr ⟨lw_p20, List.forall_mem_cons.mpr ⟨lw_p21, List.forall_mem_cons.mpr ⟨lw_p22, List.forall_mem_cons.mpr ⟨lw_p23, List.forall_mem_cons.mpr ⟨lw_p24, List.forall_mem_cons.mpr ⟨lw_p25, List.forall_mem_cons.mpr ⟨lw_p26, List.forall_mem_cons.mpr ⟨lw_p27, List.forall_mem_cons.mpr ⟨lw_p28, List.forall_mem_cons.mpr ⟨lw_p29, List.forall_mem_cons.mpr ⟨lw_p30, List.forall_mem_cons.mpr ⟨lw_p31, fun _ h => absurd h List.not_mem_nil⟩⟩⟩⟩⟩⟩⟩⟩⟩⟩⟩⟩⟩⟩⟩⟩
theorem lw_p32 : lw_okq (⟨"HammockReachModel", "isForest", "()Z"⟩, 23) := ⟨⟨by decide +kernel, by decide +kernel⟩, List.mem_of_getElem? (i := 580) (by decide +kernel), List.mem_of_getElem? (i := 744) (by decide +kernel), List.mem_of_getElem? (i := 745) (by decide +kernel)⟩
theorem lw_p33 : lw_okq (⟨"HammockReachModel", "remember", "()V"⟩, 23) := ⟨⟨by decide +kernel, by decide +kernel⟩, List.mem_of_getElem? (i := 580) (by decide +kernel), List.mem_of_getElem? (i := 750) (by decide +kernel), List.mem_of_getElem? (i := 751) (by decide +kernel)⟩
theorem lw_p34 : lw_okq (⟨"HammockReachModel", "isHammock", "(I)Z"⟩, 23) := ⟨⟨by decide +kernel, by decide +kernel⟩, List.mem_of_getElem? (i := 580) (by decide +kernel), List.mem_of_getElem? (i := 770) (by decide +kernel), List.mem_of_getElem? (i := 771) (by decide +kernel)⟩
theorem lw_p35 : lw_okq (⟨"HammockReachModel", "layAside", "()V"⟩, 23) := ⟨⟨by decide +kernel, by decide +kernel⟩, List.mem_of_getElem? (i := 580) (by decide +kernel), List.mem_of_getElem? (i := 854) (by decide +kernel), List.mem_of_getElem? (i := 855) (by decide +kernel)⟩
theorem lw_p36 : lw_okq (⟨"HammockReachModel", "mark", "(I)I"⟩, 23) := ⟨⟨by decide +kernel, by decide +kernel⟩, List.mem_of_getElem? (i := 580) (by decide +kernel), List.mem_of_getElem? (i := 896) (by decide +kernel), List.mem_of_getElem? (i := 897) (by decide +kernel)⟩
theorem lw_p37 : lw_okq (⟨"HammockReachModel", "leave", "(J)V"⟩, 23) := ⟨⟨by decide +kernel, by decide +kernel⟩, List.mem_of_getElem? (i := 580) (by decide +kernel), List.mem_of_getElem? (i := 903) (by decide +kernel), List.mem_of_getElem? (i := 904) (by decide +kernel)⟩
theorem lw_p38 : lw_okq (⟨"HammockReachModel", "sizeOf", "(I)I"⟩, 23) := ⟨⟨by decide +kernel, by decide +kernel⟩, List.mem_of_getElem? (i := 580) (by decide +kernel), List.mem_of_getElem? (i := 910) (by decide +kernel), List.mem_of_getElem? (i := 911) (by decide +kernel)⟩
def lw_privs_3 : List (MethodName × Nat) := [(⟨"HammockReachModel", "isForest", "()Z"⟩, 23), (⟨"HammockReachModel", "remember", "()V"⟩, 23), (⟨"HammockReachModel", "isHammock", "(I)Z"⟩, 23), (⟨"HammockReachModel", "layAside", "()V"⟩, 23), (⟨"HammockReachModel", "mark", "(I)I"⟩, 23), (⟨"HammockReachModel", "leave", "(J)V"⟩, 23), (⟨"HammockReachModel", "sizeOf", "(I)I"⟩, 23)]
theorem lw_r3 : ∀ q ∈ lw_privs_3, lw_okq q := List.forall_mem_cons.mpr ⟨lw_p32, List.forall_mem_cons.mpr ⟨lw_p33, List.forall_mem_cons.mpr ⟨lw_p34, List.forall_mem_cons.mpr ⟨lw_p35, List.forall_mem_cons.mpr ⟨lw_p36, List.forall_mem_cons.mpr ⟨lw_p37, List.forall_mem_cons.mpr ⟨lw_p38, fun _ h => absurd h List.not_mem_nil⟩⟩⟩⟩⟩⟩⟩
def lw_privs : List (MethodName × Nat) := lw_privs_1 ++ (lw_privs_2 ++ (lw_privs_3))
def lw_tbl : List Cond := k2_sels lw_privs ++ tables_1
theorem lw_privs_ok : ∀ q ∈ lw_privs, lw_okq q := by
  show ∀ q ∈ lw_privs_1 ++ (lw_privs_2 ++ (lw_privs_3)), lw_okq q
  exact List.forall_mem_append.mpr ⟨lw_r1, List.forall_mem_append.mpr ⟨lw_r2, lw_r3⟩⟩
end
section
def RX0 : String := "HammockReach$Acts"
def TX0 : u_T := fun k => match k with
  | 0 => ("HammockReach$Acts", "what", "[I", true)
  | 1 => ("HammockReach$Acts", "whose", "[I", true)
  | 2 => ("HammockReach$Acts", "before", "[I", true)
  | 3 => ("HammockReach$Acts", "beforeToo", "[I", true)
  | 4 => ("HammockReach$Acts", "oldest", "I", false)
  | _ => ("HammockReach$Acts", "kept", "I", false)
def tyX0 : Nat → FieldType := fun k => match k with
  | 0 => .array .int
  | 1 => .array .int
  | 2 => .array .int
  | 3 => .array .int
  | 4 => .int
  | _ => .int
abbrev wsX00 : List Cond := u_ws RX0 TX0 6
theorem nmX0 : ∀ a, a < 6 → ∀ b, b < 6 → a ≠ b → (TX0 a).2.1 ≠ (TX0 b).2.1 := by decide +kernel
theorem tyX0_ok : ∀ k, k < 6 → parseFieldDescriptor (TX0 k).2.2.1 = some (tyX0 k) := by decide +kernel
abbrev cX0_init : ByteArray := prog_2_method_1_code
def yX0_init : MethodName := ⟨RX0, "<init>", "()V"⟩
abbrev cX0_forget : ByteArray := prog_2_method_2_code
def yX0_forget : MethodName := ⟨RX0, "forget", "()V"⟩
abbrev cX0_keep : ByteArray := prog_2_method_3_code
def yX0_keep : MethodName := ⟨RX0, "keep", "(IIII)V"⟩
abbrev cX0_takeBack : ByteArray := prog_2_method_4_code
def yX0_takeBack : MethodName := ⟨RX0, "takeBack", "(LHammockReach$Forest;)V"⟩
def RX1 : String := "HammockReach$Forest"
def TX1 : u_T := fun k => match k with
  | 0 => ("HammockReach$Forest", "sort", "[I", true)
  | 1 => ("HammockReach$Forest", "low", "[I", true)
  | 2 => ("HammockReach$Forest", "top", "[I", true)
  | 3 => ("HammockReach$Forest", "weight", "[I", true)
  | 4 => ("HammockReach$Forest", "swing", "[I", true)
  | 5 => ("HammockReach$Forest", "stands", "Z", false)
  | 6 => ("HammockReach$Forest", "high", "I", false)
  | 7 => ("HammockReach$Forest", "arm", "I", false)
  | 8 => ("HammockReach$Forest", "minute", "I", false)
  | 9 => ("HammockReach$Forest", "size", "I", false)
  | _ => ("HammockReach$Forest", "cut", "I", false)
def tyX1 : Nat → FieldType := fun k => match k with
  | 0 => .array .int
  | 1 => .array .int
  | 2 => .array .int
  | 3 => .array .int
  | 4 => .array .int
  | 5 => .boolean
  | 6 => .int
  | 7 => .int
  | 8 => .int
  | 9 => .int
  | _ => .int
abbrev wsX10 : List Cond := u_ws RX1 TX1 11
theorem nmX1 : ∀ a, a < 11 → ∀ b, b < 11 → a ≠ b → (TX1 a).2.1 ≠ (TX1 b).2.1 := by decide +kernel
theorem tyX1_ok : ∀ k, k < 11 → parseFieldDescriptor (TX1 k).2.2.1 = some (tyX1 k) := by decide +kernel
abbrev cX1_init : ByteArray := prog_3_method_1_code
def yX1_init : MethodName := ⟨RX1, "<init>", "()V"⟩
abbrev cX1_begin : ByteArray := prog_3_method_2_code
def yX1_begin : MethodName := ⟨RX1, "begin", "()V"⟩
abbrev cX1_takeFrom : ByteArray := prog_3_method_3_code
def yX1_takeFrom : MethodName := ⟨RX1, "takeFrom", "(LHammockReach$Forest;)V"⟩
abbrev cX1_isCut : ByteArray := prog_3_method_4_code
def yX1_isCut : MethodName := ⟨RX1, "isCut", "(I)Z"⟩
abbrev cX1_dip : ByteArray := prog_3_method_5_code
def yX1_dip : MethodName := ⟨RX1, "dip", "(II)I"⟩
abbrev cX1_isDown : ByteArray := prog_3_method_6_code
def yX1_isDown : MethodName := ⟨RX1, "isDown", "(II)Z"⟩
abbrev cX1_downBits : ByteArray := prog_3_method_7_code
def yX1_downBits : MethodName := ⟨RX1, "downBits", "(I)I"⟩
abbrev cX1_place : ByteArray := prog_3_method_8_code
def yX1_place : MethodName := ⟨RX1, "place", "(II)I"⟩
abbrev cX1_offset : ByteArray := prog_3_method_9_code
def yX1_offset : MethodName := ⟨RX1, "offset", "(II)I"⟩
abbrev cX1_swung : ByteArray := prog_3_method_10_code
def yX1_swung : MethodName := ⟨RX1, "swung", "(II)I"⟩
abbrev cX1_spot : ByteArray := prog_3_method_11_code
def yX1_spot : MethodName := ⟨RX1, "spot", "(II)I"⟩
abbrev cX1_areNear : ByteArray := prog_3_method_12_code
def yX1_areNear : MethodName := ⟨RX1, "areNear", "(II)Z"⟩
abbrev cX1_nearBits : ByteArray := prog_3_method_13_code
def yX1_nearBits : MethodName := ⟨RX1, "nearBits", "(II)I"⟩
def RX2 : String := "HammockReach$Outlook"
def TX2 : u_T := fun k => match k with
  | 0 => ("HammockReach$Outlook", "spots", "[I", true)
  | 1 => ("HammockReach$Outlook", "near", "[I", true)
  | 2 => ("HammockReach$Outlook", "within", "[I", true)
  | _ => ("HammockReach$Outlook", "size", "I", false)
def tyX2 : Nat → FieldType := fun k => match k with
  | 0 => .array .int
  | 1 => .array .int
  | 2 => .array .int
  | _ => .int
abbrev wsX20 : List Cond := u_ws RX2 TX2 4
theorem nmX2 : ∀ a, a < 4 → ∀ b, b < 4 → a ≠ b → (TX2 a).2.1 ≠ (TX2 b).2.1 := by decide +kernel
theorem tyX2_ok : ∀ k, k < 4 → parseFieldDescriptor (TX2 k).2.2.1 = some (tyX2 k) := by decide +kernel
abbrev cX2_init : ByteArray := prog_4_method_1_code
def yX2_init : MethodName := ⟨RX2, "<init>", "()V"⟩
abbrev cX2_foresee : ByteArray := prog_4_method_2_code
def yX2_foresee : MethodName := ⟨RX2, "foresee", "(LHammockReach$Forest;I)V"⟩
abbrev cX2_foreseeAnew : ByteArray := prog_4_method_3_code
def yX2_foreseeAnew : MethodName := ⟨RX2, "foreseeAnew", "(LHammockReach$Forest;II)V"⟩
abbrev cX2_link : ByteArray := prog_4_method_4_code
def yX2_link : MethodName := ⟨RX2, "link", "(LHammockReach$Forest;II)V"⟩
abbrev cX2_spread : ByteArray := prog_4_method_5_code
def yX2_spread : MethodName := ⟨RX2, "spread", "(III)I"⟩
abbrev cX2_holders : ByteArray := prog_4_method_6_code
def yX2_holders : MethodName := ⟨RX2, "holders", "(II)I"⟩
abbrev cX2_arrival : ByteArray := prog_4_method_7_code
def yX2_arrival : MethodName := ⟨RX2, "arrival", "(IIII)I"⟩
abbrev cX2_fewestHands : ByteArray := prog_4_method_8_code
def yX2_fewestHands : MethodName := ⟨RX2, "fewestHands", "(II)I"⟩
def RX3 : String := "HammockReach$Row"
def TX3 : u_T := fun k => match k with
  | 0 => ("HammockReach$Row", "items", "[I", true)
  | 1 => ("HammockReach$Row", "lane", "I", false)
  | _ => ("HammockReach$Row", "size", "I", false)
def tyX3 : Nat → FieldType := fun k => match k with
  | 0 => .array .int
  | 1 => .int
  | _ => .int
abbrev wsX30 : List Cond := u_ws RX3 TX3 3
theorem nmX3 : ∀ a, a < 3 → ∀ b, b < 3 → a ≠ b → (TX3 a).2.1 ≠ (TX3 b).2.1 := by decide +kernel
theorem tyX3_ok : ∀ k, k < 3 → parseFieldDescriptor (TX3 k).2.2.1 = some (tyX3 k) := by decide +kernel
abbrev cX3_init : ByteArray := prog_5_method_1_code
def yX3_init : MethodName := ⟨RX3, "<init>", "()V"⟩
abbrev cX3_begin : ByteArray := prog_5_method_2_code
def yX3_begin : MethodName := ⟨RX3, "begin", "(II)V"⟩
abbrev cX3_narrowed : ByteArray := prog_5_method_3_code
def yX3_narrowed : MethodName := ⟨RX3, "narrowed", "(I)I"⟩
abbrev cX3_hasSpan : ByteArray := prog_5_method_4_code
def yX3_hasSpan : MethodName := ⟨RX3, "hasSpan", "(II)Z"⟩
def RX4 : String := "HammockReach$Tape"
def TX4 : u_T := fun k => match k with
  | 0 => ("HammockReach$Tape", "bytes", "[I", true)
  | 1 => ("HammockReach$Tape", "length", "I", false)
  | 2 => ("HammockReach$Tape", "at", "I", false)
  | _ => ("HammockReach$Tape", "fault", "I", false)
def tyX4 : Nat → FieldType := fun k => match k with
  | 0 => .array .int
  | 1 => .int
  | 2 => .int
  | _ => .int
abbrev wsX40 : List Cond := u_ws RX4 TX4 4
theorem nmX4 : ∀ a, a < 4 → ∀ b, b < 4 → a ≠ b → (TX4 a).2.1 ≠ (TX4 b).2.1 := by decide +kernel
theorem tyX4_ok : ∀ k, k < 4 → parseFieldDescriptor (TX4 k).2.2.1 = some (tyX4 k) := by decide +kernel
abbrev cX4_init : ByteArray := prog_6_method_1_code
def yX4_init : MethodName := ⟨RX4, "<init>", "()V"⟩
abbrev cX4_readInto : ByteArray := prog_6_method_2_code
def yX4_readInto : MethodName := ⟨RX4, "readInto", "(LHammockReach$Forest;)Z"⟩
abbrev cX4_readLaw : ByteArray := prog_6_method_3_code
def yX4_readLaw : MethodName := ⟨RX4, "readLaw", "(LHammockReach$Forest;)Z"⟩
abbrev cX4_readHammock : ByteArray := prog_6_method_4_code
def yX4_readHammock : MethodName := ⟨RX4, "readHammock", "(LHammockReach$Forest;)Z"⟩
abbrev cX4_readTrees : ByteArray := prog_6_method_5_code
def yX4_readTrees : MethodName := ⟨RX4, "readTrees", "(LHammockReach$Forest;I)Z"⟩
abbrev cX4_readLoad : ByteArray := prog_6_method_6_code
def yX4_readLoad : MethodName := ⟨RX4, "readLoad", "(LHammockReach$Forest;I)Z"⟩
abbrev cX4_readSign : ByteArray := prog_6_method_7_code
def yX4_readSign : MethodName := ⟨RX4, "readSign", "(I)Z"⟩
abbrev cX4_readNumber : ByteArray := prog_6_method_8_code
def yX4_readNumber : MethodName := ⟨RX4, "readNumber", "(II)I"⟩
abbrev cX4_refuse : ByteArray := prog_6_method_9_code
def yX4_refuse : MethodName := ⟨RX4, "refuse", "(I)Z"⟩
abbrev cX4_byteAt : ByteArray := prog_6_method_10_code
def yX4_byteAt : MethodName := ⟨RX4, "byteAt", "(I)I"⟩
abbrev cX4_isFigure : ByteArray := prog_6_method_11_code
def yX4_isFigure : MethodName := ⟨RX4, "isFigure", "(I)Z"⟩
abbrev cX4_sortOf : ByteArray := prog_6_method_12_code
def yX4_sortOf : MethodName := ⟨RX4, "sortOf", "(I)I"⟩
def RX5 : String := "HammockReach"
def TX5 : u_T := fun k => match k with
  | 0 => ("HammockReach", "rows", "[LHammockReach$Row;", true)
  | 1 => ("HammockReach", "tape", "LHammockReach$Tape;", true)
  | 2 => ("HammockReach", "now", "LHammockReach$Forest;", true)
  | 3 => ("HammockReach", "trial", "LHammockReach$Forest;", true)
  | 4 => ("HammockReach", "images", "[LHammockReach$Forest;", true)
  | 5 => ("HammockReach", "acts", "LHammockReach$Acts;", true)
  | 6 => ("HammockReach", "outlook", "LHammockReach$Outlook;", true)
  | 7 => ("HammockReach", "traced", "[I", true)
  | 8 => ("HammockReach", "tracedCount", "I", false)
  | _ => ("HammockReach", "finding", "I", false)
def tyX5 : Nat → FieldType := fun k => match k with
  | 0 => .array (.object "HammockReach$Row")
  | 1 => .object "HammockReach$Tape"
  | 2 => .object "HammockReach$Forest"
  | 3 => .object "HammockReach$Forest"
  | 4 => .array (.object "HammockReach$Forest")
  | 5 => .object "HammockReach$Acts"
  | 6 => .object "HammockReach$Outlook"
  | 7 => .array .int
  | 8 => .int
  | _ => .int
abbrev wsX50 : List Cond := u_ws RX5 TX5 10
theorem nmX5 : ∀ a, a < 10 → ∀ b, b < 10 → a ≠ b → (TX5 a).2.1 ≠ (TX5 b).2.1 := by decide +kernel
theorem tyX5_ok : ∀ k, k < 10 → parseFieldDescriptor (TX5 k).2.2.1 = some (tyX5 k) := by decide +kernel
abbrev cX5_init : ByteArray := prog_1_method_1_code
def yX5_init : MethodName := ⟨RX5, "<init>", "()V"⟩
abbrev cX5_row : ByteArray := prog_1_method_2_code
def yX5_row : MethodName := ⟨RX5, "row", "(III)I"⟩
abbrev cX5_set : ByteArray := prog_1_method_3_code
def yX5_set : MethodName := ⟨RX5, "set", "(III)I"⟩
abbrev cX5_copy : ByteArray := prog_1_method_4_code
def yX5_copy : MethodName := ⟨RX5, "copy", "(IIIII)I"⟩
abbrev cX5_drop : ByteArray := prog_1_method_5_code
def yX5_drop : MethodName := ⟨RX5, "drop", "(I)I"⟩
abbrev cX5_feed : ByteArray := prog_1_method_6_code
def yX5_feed : MethodName := ⟨RX5, "feed", "(I)I"⟩
abbrev cX5_forest : ByteArray := prog_1_method_7_code
def yX5_forest : MethodName := ⟨RX5, "forest", "()I"⟩
abbrev cX5_fault : ByteArray := prog_1_method_8_code
def yX5_fault : MethodName := ⟨RX5, "fault", "()I"⟩
abbrev cX5_minutes : ByteArray := prog_1_method_9_code
def yX5_minutes : MethodName := ⟨RX5, "minutes", "(I)I"⟩
abbrev cX5_sling : ByteArray := prog_1_method_10_code
def yX5_sling : MethodName := ⟨RX5, "sling", "(III)I"⟩
abbrev cX5_load : ByteArray := prog_1_method_11_code
def yX5_load : MethodName := ⟨RX5, "load", "(II)I"⟩
abbrev cX5_cord : ByteArray := prog_1_method_12_code
def yX5_cord : MethodName := ⟨RX5, "cord", "(II)I"⟩
abbrev cX5_undo : ByteArray := prog_1_method_13_code
def yX5_undo : MethodName := ⟨RX5, "undo", "()I"⟩
abbrev cX5_hammock : ByteArray := prog_1_method_14_code
def yX5_hammock : MethodName := ⟨RX5, "hammock", "(II)I"⟩
abbrev cX5_ahead : ByteArray := prog_1_method_15_code
def yX5_ahead : MethodName := ⟨RX5, "ahead", "(III)I"⟩
abbrev cX5_down : ByteArray := prog_1_method_16_code
def yX5_down : MethodName := ⟨RX5, "down", "(I)I"⟩
abbrev cX5_reach : ByteArray := prog_1_method_17_code
def yX5_reach : MethodName := ⟨RX5, "reach", "(II)I"⟩
abbrev cX5_meet : ByteArray := prog_1_method_18_code
def yX5_meet : MethodName := ⟨RX5, "meet", "(II)I"⟩
abbrev cX5_soonest : ByteArray := prog_1_method_19_code
def yX5_soonest : MethodName := ⟨RX5, "soonest", "(II)I"⟩
abbrev cX5_hands : ByteArray := prog_1_method_20_code
def yX5_hands : MethodName := ⟨RX5, "hands", "(II)I"⟩
abbrev cX5_everywhere : ByteArray := prog_1_method_21_code
def yX5_everywhere : MethodName := ⟨RX5, "everywhere", "(II)I"⟩
abbrev cX5_stops : ByteArray := prog_1_method_22_code
def yX5_stops : MethodName := ⟨RX5, "stops", "(III)I"⟩
abbrev cX5_toSling : ByteArray := prog_1_method_23_code
def yX5_toSling : MethodName := ⟨RX5, "toSling", "(IIII)I"⟩
abbrev cX5_fits : ByteArray := prog_1_method_24_code
def yX5_fits : MethodName := ⟨RX5, "fits", "(IIIII)I"⟩
abbrev cX5_breaks : ByteArray := prog_1_method_25_code
def yX5_breaks : MethodName := ⟨RX5, "breaks", "(IIIII)I"⟩
abbrev cX5_image : ByteArray := prog_1_method_26_code
def yX5_image : MethodName := ⟨RX5, "image", "(I)I"⟩
abbrev cX5_restore : ByteArray := prog_1_method_27_code
def yX5_restore : MethodName := ⟨RX5, "restore", "(I)I"⟩
abbrev cX5_kind : ByteArray := prog_1_method_28_code
def yX5_kind : MethodName := ⟨RX5, "kind", "(I)I"⟩
abbrev cX5_as : ByteArray := prog_1_method_29_code
def yX5_as : MethodName := ⟨RX5, "as", "(II)I"⟩
abbrev cX5_ask : ByteArray := prog_1_method_30_code
def yX5_ask : MethodName := ⟨RX5, "ask", "(II)I"⟩
abbrev cX5_trace : ByteArray := prog_1_method_31_code
def yX5_trace : MethodName := ⟨RX5, "trace", "(I)I"⟩
abbrev cX5_count : ByteArray := prog_1_method_32_code
def yX5_count : MethodName := ⟨RX5, "count", "(I)I"⟩
abbrev cX5_status : ByteArray := prog_1_method_33_code
def yX5_status : MethodName := ⟨RX5, "status", "()I"⟩
abbrev cX5_isBelow : ByteArray := prog_1_method_34_code
def yX5_isBelow : MethodName := ⟨RX5, "isBelow", "(II)Z"⟩
abbrev cX5_isRow : ByteArray := prog_1_method_35_code
def yX5_isRow : MethodName := ⟨RX5, "isRow", "(I)Z"⟩
abbrev cX5_isAhead : ByteArray := prog_1_method_36_code
def yX5_isAhead : MethodName := ⟨RX5, "isAhead", "(I)Z"⟩
abbrev cX5_isHammock : ByteArray := prog_1_method_37_code
def yX5_isHammock : MethodName := ⟨RX5, "isHammock", "(I)Z"⟩
abbrev cX5_areTwo : ByteArray := prog_1_method_38_code
def yX5_areTwo : MethodName := ⟨RX5, "areTwo", "(II)Z"⟩
abbrev cX5_finds : ByteArray := prog_1_method_39_code
def yX5_finds : MethodName := ⟨RX5, "finds", "(I)I"⟩
abbrev cX5_countRows : ByteArray := prog_1_method_40_code
def yX5_countRows : MethodName := ⟨RX5, "countRows", "()I"⟩
abbrev cX5_fittingKinds : ByteArray := prog_1_method_41_code
def yX5_fittingKinds : MethodName := ⟨RX5, "fittingKinds", "(ILHammockReach$Row;II)I"⟩
abbrev cX5_fittingSwings : ByteArray := prog_1_method_42_code
def yX5_fittingSwings : MethodName := ⟨RX5, "fittingSwings", "(ILHammockReach$Row;II)I"⟩
abbrev cX5_fittingWeights : ByteArray := prog_1_method_43_code
def yX5_fittingWeights : MethodName := ⟨RX5, "fittingWeights", "(ILHammockReach$Row;II)I"⟩
abbrev cX5_wasThere : ByteArray := prog_1_method_44_code
def yX5_wasThere : MethodName := ⟨RX5, "wasThere", "(ILHammockReach$Row;II)Z"⟩
abbrev cX5_wasReached : ByteArray := prog_1_method_45_code
def yX5_wasReached : MethodName := ⟨RX5, "wasReached", "(ILHammockReach$Row;II)Z"⟩
abbrev cX5_partsOf : ByteArray := prog_1_method_46_code
def yX5_partsOf : MethodName := ⟨RX5, "partsOf", "(II)I"⟩
abbrev cX5_partsOfAll : ByteArray := prog_1_method_47_code
def yX5_partsOfAll : MethodName := ⟨RX5, "partsOfAll", "()I"⟩
abbrev cX5_commonDivisor : ByteArray := prog_1_method_48_code
def yX5_commonDivisor : MethodName := ⟨RX5, "commonDivisor", "(II)I"⟩
abbrev cX5_isOfKind : ByteArray := prog_1_method_49_code
def yX5_isOfKind : MethodName := ⟨RX5, "isOfKind", "(II)Z"⟩
abbrev cX5_nearestBody : ByteArray := prog_1_method_50_code
def yX5_nearestBody : MethodName := ⟨RX5, "nearestBody", "(II)I"⟩
abbrev cX5_answer : ByteArray := prog_1_method_51_code
def yX5_answer : MethodName := ⟨RX5, "answer", "(III)I"⟩
abbrev cX5_body : ByteArray := prog_1_method_52_code
def yX5_body : MethodName := ⟨RX5, "body", "(III)I"⟩
def RX6 : String := "HammockReachModel"
def TX6 : u_T := fun k => match k with
  | 0 => ("HammockReachModel", "lanes", "[I", true)
  | 1 => ("HammockReachModel", "sizes", "[I", true)
  | 2 => ("HammockReachModel", "items", "[I", true)
  | 3 => ("HammockReachModel", "status", "I", false)
  | 4 => ("HammockReachModel", "now", "[I", true)
  | 5 => ("HammockReachModel", "read", "[I", true)
  | 6 => ("HammockReachModel", "aside", "[I", true)
  | 7 => ("HammockReachModel", "past", "[I", true)
  | 8 => ("HammockReachModel", "acts", "I", false)
  | 9 => ("HammockReachModel", "images", "[I", true)
  | 10 => ("HammockReachModel", "kept", "[Z", true)
  | 11 => ("HammockReachModel", "tape", "[I", true)
  | 12 => ("HammockReachModel", "size", "I", false)
  | 13 => ("HammockReachModel", "fault", "I", false)
  | 14 => ("HammockReachModel", "trace", "[I", true)
  | 15 => ("HammockReachModel", "traced", "I", false)
  | 16 => ("HammockReachModel", "at", "I", false)
  | 17 => ("HammockReachModel", "begin", "I", false)
  | 18 => ("HammockReachModel", "token", "I", false)
  | 19 => ("HammockReachModel", "value", "I", false)
  | 20 => ("HammockReachModel", "wrong", "I", false)
  | 21 => ("HammockReachModel", "given", "[I", true)
  | _ => ("HammockReachModel", "then", "[I", true)
def tyX6 : Nat → FieldType := fun k => match k with
  | 0 => .array .int
  | 1 => .array .int
  | 2 => .array .int
  | 3 => .int
  | 4 => .array .int
  | 5 => .array .int
  | 6 => .array .int
  | 7 => .array .int
  | 8 => .int
  | 9 => .array .int
  | 10 => .array .boolean
  | 11 => .array .int
  | 12 => .int
  | 13 => .int
  | 14 => .array .int
  | 15 => .int
  | 16 => .int
  | 17 => .int
  | 18 => .int
  | 19 => .int
  | 20 => .int
  | 21 => .array .int
  | _ => .array .int
abbrev wsX60 : List Cond := u_ws RX6 TX6 23
theorem nmX6 : ∀ a, a < 23 → ∀ b, b < 23 → a ≠ b → (TX6 a).2.1 ≠ (TX6 b).2.1 := by decide +kernel
theorem tyX6_ok : ∀ k, k < 23 → parseFieldDescriptor (TX6 k).2.2.1 = some (tyX6 k) := by decide +kernel
abbrev cX6_init : ByteArray := prog_8_method_1_code
def yX6_init : MethodName := ⟨RX6, "<init>", "()V"⟩
abbrev cX6_in : ByteArray := prog_8_method_3_code
def yX6_in : MethodName := ⟨RX6, "in", "(JJJ)Z"⟩
abbrev cX6_found : ByteArray := prog_8_method_4_code
def yX6_found : MethodName := ⟨RX6, "found", "(I)I"⟩
abbrev cX6_well : ByteArray := prog_8_method_5_code
def yX6_well : MethodName := ⟨RX6, "well", "(I)I"⟩
abbrev cX6_isRow : ByteArray := prog_8_method_6_code
def yX6_isRow : MethodName := ⟨RX6, "isRow", "(I)Z"⟩
abbrev cX6_row : ByteArray := prog_8_method_7_code
def yX6_row : MethodName := ⟨RX6, "row", "(III)I"⟩
abbrev cX6_set : ByteArray := prog_8_method_8_code
def yX6_set : MethodName := ⟨RX6, "set", "(III)I"⟩
abbrev cX6_copy : ByteArray := prog_8_method_9_code
def yX6_copy : MethodName := ⟨RX6, "copy", "(IIIII)I"⟩
abbrev cX6_drop : ByteArray := prog_8_method_10_code
def yX6_drop : MethodName := ⟨RX6, "drop", "(I)I"⟩
abbrev cX6_feed : ByteArray := prog_8_method_11_code
def yX6_feed : MethodName := ⟨RX6, "feed", "(I)I"⟩
abbrev cX6_here : ByteArray := prog_8_method_12_code
def yX6_here : MethodName := ⟨RX6, "here", "()I"⟩
abbrev cX6_step : ByteArray := prog_8_method_13_code
def yX6_step : MethodName := ⟨RX6, "step", "()V"⟩
abbrev cX6_fails : ByteArray := prog_8_method_14_code
def yX6_fails : MethodName := ⟨RX6, "fails", "(I)Z"⟩
abbrev cX6_number : ByteArray := prog_8_method_15_code
def yX6_number : MethodName := ⟨RX6, "number", "(IIII)Z"⟩
abbrev cX6_sortOf : ByteArray := prog_8_method_16_code
def yX6_sortOf : MethodName := ⟨RX6, "sortOf", "(I)I"⟩
abbrev cX6_readsHammock : ByteArray := prog_8_method_17_code
def yX6_readsHammock : MethodName := ⟨RX6, "readsHammock", "()Z"⟩
abbrev cX6_reads : ByteArray := prog_8_method_18_code
def yX6_reads : MethodName := ⟨RX6, "reads", "()Z"⟩
abbrev cX6_forest : ByteArray := prog_8_method_19_code
def yX6_forest : MethodName := ⟨RX6, "forest", "()I"⟩
abbrev cX6_fault : ByteArray := prog_8_method_20_code
def yX6_fault : MethodName := ⟨RX6, "fault", "()I"⟩
abbrev cX6_copies : ByteArray := prog_8_method_21_code
def yX6_copies : MethodName := ⟨RX6, "copies", "([II[II)V"⟩
abbrev cX6_has : ByteArray := prog_8_method_22_code
def yX6_has : MethodName := ⟨RX6, "has", "(II)Z"⟩
abbrev cX6_dip : ByteArray := prog_8_method_23_code
def yX6_dip : MethodName := ⟨RX6, "dip", "([III)I"⟩
abbrev cX6_swung : ByteArray := prog_8_method_24_code
def yX6_swung : MethodName := ⟨RX6, "swung", "(II)I"⟩
abbrev cX6_where : ByteArray := prog_8_method_25_code
def yX6_where : MethodName := ⟨RX6, "where", "([III)I"⟩
abbrev cX6_isDown : ByteArray := prog_8_method_26_code
def yX6_isDown : MethodName := ⟨RX6, "isDown", "([III)Z"⟩
abbrev cX6_downOf : ByteArray := prog_8_method_27_code
def yX6_downOf : MethodName := ⟨RX6, "downOf", "([II)I"⟩
abbrev cX6_areNear : ByteArray := prog_8_method_28_code
def yX6_areNear : MethodName := ⟨RX6, "areNear", "([IIII)Z"⟩
abbrev cX6_reachOf : ByteArray := prog_8_method_29_code
def yX6_reachOf : MethodName := ⟨RX6, "reachOf", "([III)I"⟩
abbrev cX6_spread : ByteArray := prog_8_method_30_code
def yX6_spread : MethodName := ⟨RX6, "spread", "([III)I"⟩
abbrev cX6_soonestOf : ByteArray := prog_8_method_31_code
def yX6_soonestOf : MethodName := ⟨RX6, "soonestOf", "([III)I"⟩
abbrev cX6_isForest : ByteArray := prog_8_method_32_code
def yX6_isForest : MethodName := ⟨RX6, "isForest", "()Z"⟩
abbrev cX6_isHammock : ByteArray := prog_8_method_33_code
def yX6_isHammock : MethodName := ⟨RX6, "isHammock", "(I)Z"⟩
abbrev cX6_isTwo : ByteArray := prog_8_method_34_code
def yX6_isTwo : MethodName := ⟨RX6, "isTwo", "(I)Z"⟩
abbrev cX6_isSpan : ByteArray := prog_8_method_35_code
def yX6_isSpan : MethodName := ⟨RX6, "isSpan", "(I)Z"⟩
abbrev cX6_remember : ByteArray := prog_8_method_36_code
def yX6_remember : MethodName := ⟨RX6, "remember", "()V"⟩
abbrev cX6_minutes : ByteArray := prog_8_method_37_code
def yX6_minutes : MethodName := ⟨RX6, "minutes", "(I)I"⟩
abbrev cX6_sling : ByteArray := prog_8_method_38_code
def yX6_sling : MethodName := ⟨RX6, "sling", "(III)I"⟩
abbrev cX6_load : ByteArray := prog_8_method_39_code
def yX6_load : MethodName := ⟨RX6, "load", "(II)I"⟩
abbrev cX6_cord : ByteArray := prog_8_method_40_code
def yX6_cord : MethodName := ⟨RX6, "cord", "(II)I"⟩
abbrev cX6_undo : ByteArray := prog_8_method_41_code
def yX6_undo : MethodName := ⟨RX6, "undo", "()I"⟩
abbrev cX6_hammock : ByteArray := prog_8_method_42_code
def yX6_hammock : MethodName := ⟨RX6, "hammock", "(II)I"⟩
abbrev cX6_ahead : ByteArray := prog_8_method_43_code
def yX6_ahead : MethodName := ⟨RX6, "ahead", "(III)I"⟩
abbrev cX6_down : ByteArray := prog_8_method_44_code
def yX6_down : MethodName := ⟨RX6, "down", "(I)I"⟩
abbrev cX6_reach : ByteArray := prog_8_method_45_code
def yX6_reach : MethodName := ⟨RX6, "reach", "(II)I"⟩
abbrev cX6_meet : ByteArray := prog_8_method_46_code
def yX6_meet : MethodName := ⟨RX6, "meet", "(II)I"⟩
abbrev cX6_told : ByteArray := prog_8_method_47_code
def yX6_told : MethodName := ⟨RX6, "told", "(I)I"⟩
abbrev cX6_soonest : ByteArray := prog_8_method_48_code
def yX6_soonest : MethodName := ⟨RX6, "soonest", "(II)I"⟩
abbrev cX6_hands : ByteArray := prog_8_method_49_code
def yX6_hands : MethodName := ⟨RX6, "hands", "(II)I"⟩
abbrev cX6_everywhere : ByteArray := prog_8_method_50_code
def yX6_everywhere : MethodName := ⟨RX6, "everywhere", "(II)I"⟩
abbrev cX6_layAside : ByteArray := prog_8_method_51_code
def yX6_layAside : MethodName := ⟨RX6, "layAside", "()V"⟩
abbrev cX6_stops : ByteArray := prog_8_method_52_code
def yX6_stops : MethodName := ⟨RX6, "stops", "(III)I"⟩
abbrev cX6_toSling : ByteArray := prog_8_method_53_code
def yX6_toSling : MethodName := ⟨RX6, "toSling", "(IIII)I"⟩
abbrev cX6_fits : ByteArray := prog_8_method_54_code
def yX6_fits : MethodName := ⟨RX6, "fits", "(IIIII)I"⟩
abbrev cX6_breaks : ByteArray := prog_8_method_55_code
def yX6_breaks : MethodName := ⟨RX6, "breaks", "(IIIII)I"⟩
abbrev cX6_image : ByteArray := prog_8_method_56_code
def yX6_image : MethodName := ⟨RX6, "image", "(I)I"⟩
abbrev cX6_restore : ByteArray := prog_8_method_57_code
def yX6_restore : MethodName := ⟨RX6, "restore", "(I)I"⟩
abbrev cX6_kind : ByteArray := prog_8_method_58_code
def yX6_kind : MethodName := ⟨RX6, "kind", "(I)I"⟩
abbrev cX6_isOf : ByteArray := prog_8_method_59_code
def yX6_isOf : MethodName := ⟨RX6, "isOf", "(II)Z"⟩
abbrev cX6_as : ByteArray := prog_8_method_60_code
def yX6_as : MethodName := ⟨RX6, "as", "(II)I"⟩
abbrev cX6_leave : ByteArray := prog_8_method_61_code
def yX6_leave : MethodName := ⟨RX6, "leave", "(J)V"⟩
abbrev cX6_mark : ByteArray := prog_8_method_62_code
def yX6_mark : MethodName := ⟨RX6, "mark", "(I)I"⟩
abbrev cX6_sizeOf : ByteArray := prog_8_method_63_code
def yX6_sizeOf : MethodName := ⟨RX6, "sizeOf", "(I)I"⟩
abbrev cX6_ask : ByteArray := prog_8_method_64_code
def yX6_ask : MethodName := ⟨RX6, "ask", "(II)I"⟩
abbrev cX6_trace : ByteArray := prog_8_method_65_code
def yX6_trace : MethodName := ⟨RX6, "trace", "(I)I"⟩
abbrev cX6_count : ByteArray := prog_8_method_66_code
def yX6_count : MethodName := ⟨RX6, "count", "(I)I"⟩
abbrev cX6_status : ByteArray := prog_8_method_67_code
def yX6_status : MethodName := ⟨RX6, "status", "()I"⟩
def RJ6 : String := "java/lang/Integer"
def TJ6 : u_T := fun k => match k with
  | _ => ("", "", "", false)
def tyJ6 : Nat → FieldType := fun k => match k with
  | _ => .int
abbrev wsJ60 : List Cond := u_ws RJ6 TJ6 0
theorem nmJ6 : ∀ a, a < 0 → ∀ b, b < 0 → a ≠ b → (TJ6 a).2.1 ≠ (TJ6 b).2.1 := by decide +kernel
theorem tyJ6_ok : ∀ k, k < 0 → parseFieldDescriptor (TJ6 k).2.2.1 = some (tyJ6 k) := by decide +kernel
abbrev cJ6_bitCount_0f7a4 : ByteArray := prog_9_method_49_code
def yJ6_bitCount_0f7a4 : MethodName := ⟨RJ6, "bitCount", "(I)I"⟩
def RJ9 : String := "java/lang/Math"
def TJ9 : u_T := fun k => match k with
  | _ => ("", "", "", false)
def tyJ9 : Nat → FieldType := fun k => match k with
  | _ => .int
abbrev wsJ90 : List Cond := u_ws RJ9 TJ9 0
theorem nmJ9 : ∀ a, a < 0 → ∀ b, b < 0 → a ≠ b → (TJ9 a).2.1 ≠ (TJ9 b).2.1 := by decide +kernel
theorem tyJ9_ok : ∀ k, k < 0 → parseFieldDescriptor (TJ9 k).2.2.1 = some (tyJ9 k) := by decide +kernel
abbrev cJ9_abs_0f7a4 : ByteArray := prog_10_method_59_code
def yJ9_abs_0f7a4 : MethodName := ⟨RJ9, "abs", "(I)I"⟩
def RJ10 : String := "java/lang/System"
def TJ10 : u_T := fun k => match k with
  | _ => ("", "", "", false)
def tyJ10 : Nat → FieldType := fun k => match k with
  | _ => .int
abbrev wsJ100 : List Cond := u_ws RJ10 TJ10 0
theorem nmJ10 : ∀ a, a < 0 → ∀ b, b < 0 → a ≠ b → (TJ10 a).2.1 ≠ (TJ10 b).2.1 := by decide +kernel
theorem tyJ10_ok : ∀ k, k < 0 → parseFieldDescriptor (TJ10 k).2.2.1 = some (tyJ10 k) := by decide +kernel
def RL : String := "HammockReachLaw"
abbrev cL_law : ByteArray := code
def yL_law : MethodName := ⟨RL, "law", "([I)Z"⟩

abbrev vwCl : List vw_C := [(RX0, TX0, 6), (RX1, TX1, 11), (RX2, TX2, 4), (RX3, TX3, 3), (RX4, TX4, 4), (RX5, TX5, 10), (RX6, TX6, 23)]
end
section
/-! ===== worlds as lists of cells, a reference being its place ===== -/
abbrev xE : Type := (Nat × vp_A) ⊕ (Nat × List Value)
def xV (ρ : Nat → Nat) (v : Value) : Value := match v with
  | .ref a => .ref (ρ a)
  | v => v
def xA (ρ : Nat → Nat) (a : vp_A) : vp_A := match a with
  | (n, .inr (.inr (.inr (.inr g)))) => (n, .inr (.inr (.inr (.inr (fun k => (g k).map ρ)))))
  | a => a
def xC (ρ : Nat → Nat) (τ : Nat → ClassId) (x : xE) : va_E := match x with
  | .inl a => .inl (τ a.1, xA ρ a.2)
  | .inr o => .inr (o.1, o.2.map (xV ρ))
def xW (ρ : Nat → Nat) (τ : Nat → ClassId) (θ : List xE) : va_W := θ.mapIdx (fun i x => (ρ i, xC ρ τ x))
theorem xW_get {ρ : Nat → Nat} {τ : Nat → ClassId} {θ : List xE} {i : Nat} : (xW ρ τ θ)[i]? = (θ[i]?).map (fun x => (ρ i, xC ρ τ x)) := by
  simp [xW]
theorem xW_at {ρ : Nat → Nat} {τ : Nat → ClassId} {θ : List xE} {i : Nat} {x : xE} (h : θ[i]? = some x) : (xW ρ τ θ)[i]? = some (ρ i, xC ρ τ x) := by
  rw [xW_get, h]; rfl
theorem xW_set {ρ : Nat → Nat} {τ : Nat → ClassId} {θ : List xE} {i : Nat} {x : xE} : (xW ρ τ θ).set i (ρ i, xC ρ τ x) = xW ρ τ (θ.set i x) := by
  apply List.ext_getElem?
  intro j
  rw [xW_get, List.getElem?_set, List.getElem?_set, xW_get]
  have hlen : (xW ρ τ θ).length = θ.length := by simp [xW]
  by_cases hij : i = j
  · subst hij
    simp only [if_true, hlen]
    split <;> rfl
  · simp only [if_neg hij]
theorem xW_len {ρ : Nat → Nat} {τ : Nat → ClassId} {θ : List xE} : (xW ρ τ θ).length = θ.length := by simp [xW]
theorem xV_cat (ρ : Nat → Nat) (v : Value) : (xV ρ v).category = v.category := by cases v <;> rfl
/-- the locals -/
def xL (ρ : Nat → Nat) (ls : Array Slot) (lv : List (Option Value)) : Prop := ls.size = lv.length ∧ lv_wf ls ∧ ∀ (i : Nat) (v : Value), lv[i]? = some (some v) → ls[i]? = some (.val (xV ρ v))
def xLl (ρ : Nat → Nat) (lv : List (Option Value)) : List (Nat × Value) := (List.range lv.length).filterMap (fun i => match lv[i]? with | some (some v) => some (i, xV ρ v) | _ => none)
theorem xLl_in {ρ : Nat → Nat} {lv : List (Option Value)} {q : Nat × Value} : q ∈ xLl ρ lv ↔ ∃ v, lv[q.1]? = some (some v) ∧ q.2 = xV ρ v := by
  unfold xLl
  rw [List.mem_filterMap]
  constructor
  · rintro ⟨i, -, h⟩
    split at h
    · rename_i v hv
      cases h
      exact ⟨v, hv, rfl⟩
    · cases h
  · rintro ⟨v, hv, hq⟩
    refine ⟨q.1, List.mem_range.mpr (List.getElem?_eq_some_iff.mp hv).1, ?_⟩
    rw [hv]
    simp only [← hq]
theorem xL_has {ρ : Nat → Nat} {ls : Array Slot} {lv : List (Option Value)} (h : xL ρ ls lv) : lv_has ls lv.length (xLl ρ lv) := by
  refine ⟨h.1, h.2.1, fun q hq => ?_⟩
  obtain ⟨v, hv, e⟩ := xLl_in.mp hq
  rw [e]
  exact h.2.2 q.1 v hv
/-- no long stands just below the place i -/
def xN (lv : List (Option Value)) (i : Nat) : Prop := match i with
  | 0 => True
  | j + 1 => match lv[j]? with
    | some (some (.long _)) => False
    | some (some (.double _)) => False
    | _ => True
theorem xL_set1 {ρ : Nat → Nat} {ls' : Array Slot} {lv : List (Option Value)} {i : Nat} {v : Value} (hi : i < lv.length) (hn : xN lv i) (h' : lv_has ls' lv.length ((i, xV ρ v) :: (xLl ρ lv).filter (fun q => !(q.1 == i) && !(q.1 + 1 == i && q.2.category == 2)))) : xL ρ ls' (lv.set i (some v)) := by
  refine ⟨by rw [h'.1, List.length_set], h'.2.1, fun j w hw => ?_⟩
  rw [List.getElem?_set] at hw
  by_cases hij : i = j
  · subst hij
    rw [if_pos rfl, if_pos hi] at hw
    cases hw
    exact h'.2.2 (i, xV ρ v) List.mem_cons_self
  · rw [if_neg hij] at hw
    refine h'.2.2 (j, xV ρ w) (List.mem_cons_of_mem _ (List.mem_filter.mpr ⟨xLl_in.mpr ⟨w, hw, rfl⟩, ?_⟩))
    have h1 : (j == i) = false := by simp; omega
    by_cases h2 : j + 1 = i
    · subst h2
      have h3 : (xV ρ w).category ≠ 2 := by
        rw [xV_cat]
        intro h4
        simp only [xN, hw] at hn
        cases w <;> simp [Value.category] at h4 hn
      simp [h1, h3]
    · simp [h1, h2]
theorem xL_set2 {ρ : Nat → Nat} {ls' : Array Slot} {lv : List (Option Value)} {i : Nat} {v : Value} (hi : i + 1 < lv.length) (hn : xN lv i) (h' : lv_has ls' lv.length ((i, xV ρ v) :: (xLl ρ lv).filter (fun q => !(q.1 == i) && (!(q.1 == i + 1) && !(q.1 + 1 == i && q.2.category == 2))))) : xL ρ ls' ((lv.set i (some v)).set (i + 1) none) := by
  refine ⟨by rw [h'.1, List.length_set, List.length_set], h'.2.1, fun j w hw => ?_⟩
  rw [List.getElem?_set, List.getElem?_set, List.length_set] at hw
  by_cases hi1 : i + 1 = j
  · subst hi1
    rw [if_pos rfl, if_pos hi] at hw
    cases hw
  rw [if_neg hi1] at hw
  by_cases hij : i = j
  · subst hij
    rw [if_pos rfl, if_pos (by omega)] at hw
    cases hw
    exact h'.2.2 (i, xV ρ v) List.mem_cons_self
  · rw [if_neg hij] at hw
    refine h'.2.2 (j, xV ρ w) (List.mem_cons_of_mem _ (List.mem_filter.mpr ⟨xLl_in.mpr ⟨w, hw, rfl⟩, ?_⟩))
    have h1 : (j == i) = false := by simp; omega
    have h1b : (j == i + 1) = false := by simp; omega
    by_cases h2 : j + 1 = i
    · subst h2
      have h3 : (xV ρ w).category ≠ 2 := by
        rw [xV_cat]
        intro h4
        simp only [xN, hw] at hn
        cases w <;> simp [Value.category] at h4 hn
      simp [h1, h1b, h3]
    · simp [h1, h1b, h2]
/-- the kinds of arrays that worlds hold: 0 int, 1 boolean, 2 rows of forests, 3 rows of Rows -/
def xT (τ : Nat → ClassId) : List (ClassId × FieldType) := [(τ 0, .int), (τ 1, .boolean), (τ 2, .object "HammockReach$Forest"), (τ 3, .object "HammockReach$Row")]
/-- the three tables that nobody writes -/
def xtab1 : Nat → Int32 := fun k => match k with | 0 => 0 | 1 => 0 | 2 => 1 | 3 => 1 | 4 => 0 | _ => 4
def xtab2 : Nat → Int32 := fun k => match k with | 0 => 10 | 1 => 11 | 2 => 12 | 3 => 0 | 4 => 13 | _ => 14
def xtab3 : Nat → Int32 := fun k => match k with | 0 => 20 | 1 => 21 | 2 => 24 | 3 => 22 | 4 => 23 | _ => 0
def xTab1 (nm : String) (f : Nat → Int32) (A : Nat → Prop) (U : State) : Prop := ∃ t : Nat, va_Z "HammockReach" nm "[I" (.ref t) A U U.heap ∧ va_T .int t 6 (fun j => .int (f j)) A U U.heap
def xTab (A : Nat → Prop) (U : State) : Prop := xTab1 "ABOVE" xtab1 A U ∧ xTab1 "SIZE_BODIES" xtab2 A U ∧ xTab1 "MARK_BODIES" xtab3 A U
theorem xTab1.moves {nm : String} {f : Nat → Int32} {A B : Nat → Prop} {u U : State} (hvm : u.vm.Alike U.vm) (hq : ∀ a : Nat, a < u.heap.size → ¬ A a → U.heap[a]? = u.heap[a]?) (hAB : ∀ q, B q → A q) (h : xTab1 nm f A u) : xTab1 nm f B U := by
  obtain ⟨t, h1, h2⟩ := h
  exact ⟨t, ((h1.moved hvm).kept hq).narrow hAB, ((h2.moved hvm).kept hq).narrow hAB⟩
theorem xTab.moves {A B : Nat → Prop} {u U : State} (hvm : u.vm.Alike U.vm) (hq : ∀ a : Nat, a < u.heap.size → ¬ A a → U.heap[a]? = u.heap[a]?) (hAB : ∀ q, B q → A q) (h : xTab A u) : xTab B U := ⟨h.1.moves hvm hq hAB, h.2.1.moves hvm hq hAB, h.2.2.moves hvm hq hAB⟩
/-- links of nest mates -/
def xNw : List Cond := [.methodLinkNest "HammockReach" 17 ⟨"HammockReach$Tape", "<init>", "()V"⟩ "HammockReach", .methodLinkNest "HammockReach" 24 ⟨"HammockReach$Forest", "<init>", "()V"⟩ "HammockReach", .methodLinkNest "HammockReach" 38 ⟨"HammockReach$Acts", "<init>", "()V"⟩ "HammockReach", .methodLinkNest "HammockReach" 45 ⟨"HammockReach$Outlook", "<init>", "()V"⟩ "HammockReach", .methodLinkNest "HammockReach" 54 ⟨"HammockReach$Row", "<init>", "()V"⟩ "HammockReach", .methodLinkNest "HammockReach$Tape" 89 ⟨"HammockReach", "isBelow", "(II)Z"⟩ "HammockReach"]
def xNest (U : State) : Prop := ∀ w ∈ xNw, va_Nw w U
theorem xNest.warm {s U : State} (hW : s.WarmedH U.vm) (h : xNest s) : xNest U := by
  intro w hw
  have h1 := h w hw
  simp only [xNw, List.mem_cons, List.not_mem_nil, or_false] at hw
  rcases hw with rfl | rfl | rfl | rfl | rfl | rfl <;> exact va_Nw.warmM hW h1
theorem xNest.same {u U : State} (hv : u.vm = U.vm) (h : xNest u) : xNest U := by
  intro w hw
  have h1 := h w hw
  simp only [xNw, List.mem_cons, List.not_mem_nil, or_false] at hw
  rcases hw with rfl | rfl | rfl | rfl | rfl | rfl <;> exact va_Nw.same rfl hv h1
/-- the words of the tables that every method may use -/
def TT : List Cond := lw_tbl.filter goodWord
theorem TT_mem {w : Cond} (i : Nat) (h : tables_1[i]? = some w) (hg : goodWord w = true) : w ∈ TT := List.mem_filter.mpr ⟨List.mem_append_right _ (List.mem_of_getElem? h), hg⟩
theorem TT_sel {w : Cond} (i : Nat) (h : (k2_sels lw_privs)[i]? = some w) (hg : goodWord w = true) : w ∈ TT := List.mem_filter.mpr ⟨List.mem_append_left _ (List.mem_of_getElem? h), hg⟩
theorem TT_good {w : Cond} (h : w ∈ TT) : goodWord w = true := (List.mem_filter.mp h).2
/-- the addresses: old ones, and the new ones behind them -/
def xX (ρ : Nat → Nat) (n : Nat) (nw : List Nat) : Nat → Nat := fun i => if i < n then ρ i else match nw[i - n]? with
  | some a => a
  | none => ρ i
theorem xX_nil (ρ : Nat → Nat) (n : Nat) : xX ρ n [] = ρ := by
  funext i
  simp [xX]
def xR (ρ0 : Nat → Nat) (n0 N : Nat) (ρ : Nat → Nat) : Prop := ∃ nw : List Nat, N = n0 + nw.length ∧ ρ = xX ρ0 n0 nw
def G (p : Program) (l : Launch) (e : Env) (R : Room) (s : State) (m : MethodId) (args : Array Value) (below : List Frame) (meth : Method) (c : Code) (D : va_G) (A : Nat → Prop) (τ : Nat → ClassId) (ρ0 : Nat → Nat) (n0 : Nat) (Q : State → Prop) (k n : Nat) (θ : List xE) (pc : Nat) (lv : List (Option Value)) (st : List Value) : Prop :=
  ∀ (ρ : Nat → Nat) (H : Heap) (locs : List Loc) (ls : Array Slot), xR ρ0 n0 θ.length ρ → va_P D vwCl (xW ρ τ θ) H → va_D A (xW ρ τ θ) → va_S A s.heap H locs → xL ρ ls lv → W p l e R s m args below meth c H locs k n Q (F0 m pc ls (st.map (xV ρ)))
def Sem (cc : ByteArray) (own nm : String) (nL : Nat) (R : Room) (g : Nat → Nat → List xE → Nat → List (Option Value) → List Value → Prop) : Prop :=
  ∃ (p : Program) (l : Launch) (e : Env) (s : State) (m : MethodId) (args : Array Value) (below : List Frame) (meth : Method) (c : Code) (D : va_G) (A : Nat → Prop) (τ : Nat → ClassId) (ρ0 : Nat → Nat) (n0 : Nat) (Q : State → Prop),
    (p.tables.exec = Jvm.exec ∧ c.code = cc ∧ (∀ w ∈ TT, w.before args s = true) ∧ s.vm.findClass own = some m.cls ∧ meth.name = nm ∧ c.maxLocals = nL) ∧ (va_K D vwCl (xT τ) s ∧ (∀ q : Nat, s.heap.size ≤ q → A q) ∧ (xTab A s ∧ xNest s)) ∧ g = G p l e R s m args below meth c D A τ ρ0 n0 Q
section FW
variable {cc : ByteArray} {own nm : String} {nL : Nat} {R : Room} {g : Nat → Nat → List xE → Nat → List (Option Value) → List Value → Prop} {k n : Nat} {θ : List xE} {pc : Nat} {lv : List (Option Value)} {st : List Value}
theorem r_iconst (C : Sem cc own nm nL R g) {z : Int} {v : Int32} (d : decode cc pc = .ok (.iconst z, 1)) (hv : Int32.ofInt z = v) (kk : g k n θ (pc + 1) lv (.int v :: st)) : g k n θ pc lv st := by
  obtain ⟨p, l, e, s, m, args, below, meth, c, D, A, τ, ρ0, n0, Q, ⟨hx, hb, hts, hown, hnm, hml⟩, ⟨hK, hA, hT⟩, rfl⟩ := C
  exact fun ρ H locs ls h1 h3 h4 h5 h6 => lv_iconst hx hb d hv (kk ρ H locs ls h1 h3 h4 h5 h6)
theorem r_bipush (C : Sem cc own nm nL R g) {z : Int} {v : Int32} (d : decode cc pc = .ok (.bipush z, 2)) (hv : (Int8.ofInt z).toInt32 = v) (kk : g k n θ (pc + 2) lv (.int v :: st)) : g k n θ pc lv st := by
  obtain ⟨p, l, e, s, m, args, below, meth, c, D, A, τ, ρ0, n0, Q, ⟨hx, hb, hts, hown, hnm, hml⟩, ⟨hK, hA, hT⟩, rfl⟩ := C
  exact fun ρ H locs ls h1 h3 h4 h5 h6 => lv_bipush hx hb d hv (kk ρ H locs ls h1 h3 h4 h5 h6)
theorem r_sipush (C : Sem cc own nm nL R g) {z : Int} {v : Int32} (d : decode cc pc = .ok (.sipush z, 3)) (hv : (Int16.ofInt z).toInt32 = v) (kk : g k n θ (pc + 3) lv (.int v :: st)) : g k n θ pc lv st := by
  obtain ⟨p, l, e, s, m, args, below, meth, c, D, A, τ, ρ0, n0, Q, ⟨hx, hb, hts, hown, hnm, hml⟩, ⟨hK, hA, hT⟩, rfl⟩ := C
  exact fun ρ H locs ls h1 h3 h4 h5 h6 => lv_sipush hx hb d hv (kk ρ H locs ls h1 h3 h4 h5 h6)
theorem r_ldc (C : Sem cc own nm nL R g) {ix : Nat} {v : Int32} (d : decode cc pc = .ok (.ldc ix, 2)) (hw : Cond.constant own ix v ∈ TT) (kk : g k n θ (pc + 2) lv (.int v :: st)) : g k n θ pc lv st := by
  obtain ⟨p, l, e, s, m, args, below, meth, c, D, A, τ, ρ0, n0, Q, ⟨hx, hb, hts, hown, hnm, hml⟩, ⟨hK, hA, hT⟩, rfl⟩ := C
  exact fun ρ H locs ls h1 h3 h4 h5 h6 => lv_ldc hx hb hown (hts _ hw) d (kk ρ H locs ls h1 h3 h4 h5 h6)
theorem r_iload_n (C : Sem cc own nm nL R g) {j : Fin 4} {i : Nat} {x : Int32} (d : decode cc pc = .ok (.iload_n j, 1)) (hi : (j : Nat) = i) (hl : lv[i]? = some (some (.int x))) (kk : g k n θ (pc + 1) lv (.int x :: st)) : g k n θ pc lv st := by
  obtain ⟨p, l, e, s, m, args, below, meth, c, D, A, τ, ρ0, n0, Q, ⟨hx, hb, hts, hown, hnm, hml⟩, ⟨hK, hA, hT⟩, rfl⟩ := C
  exact fun ρ H locs ls h1 h3 h4 h5 h6 => lv_iload_n hx hb d hi (h6.2.2 i _ hl) (kk ρ H locs ls h1 h3 h4 h5 h6)
theorem r_iload (C : Sem cc own nm nL R g) {i : Nat} {x : Int32} (d : decode cc pc = .ok (.iload i, 2)) (hl : lv[i]? = some (some (.int x))) (kk : g k n θ (pc + 2) lv (.int x :: st)) : g k n θ pc lv st := by
  obtain ⟨p, l, e, s, m, args, below, meth, c, D, A, τ, ρ0, n0, Q, ⟨hx, hb, hts, hown, hnm, hml⟩, ⟨hK, hA, hT⟩, rfl⟩ := C
  exact fun ρ H locs ls h1 h3 h4 h5 h6 => lv_iload hx hb d (h6.2.2 i _ hl) (kk ρ H locs ls h1 h3 h4 h5 h6)
theorem r_lload_n (C : Sem cc own nm nL R g) {j : Fin 4} {i : Nat} {x : Int64} (d : decode cc pc = .ok (.lload_n j, 1)) (hi : (j : Nat) = i) (hl : lv[i]? = some (some (.long x))) (kk : g k n θ (pc + 1) lv (.long x :: st)) : g k n θ pc lv st := by
  obtain ⟨p, l, e, s, m, args, below, meth, c, D, A, τ, ρ0, n0, Q, ⟨hx, hb, hts, hown, hnm, hml⟩, ⟨hK, hA, hT⟩, rfl⟩ := C
  exact fun ρ H locs ls h1 h3 h4 h5 h6 => lv_lload_n hx hb d hi (h6.2.2 i _ hl) (kk ρ H locs ls h1 h3 h4 h5 h6)
theorem r_lload (C : Sem cc own nm nL R g) {i : Nat} {x : Int64} (d : decode cc pc = .ok (.lload i, 2)) (hl : lv[i]? = some (some (.long x))) (kk : g k n θ (pc + 2) lv (.long x :: st)) : g k n θ pc lv st := by
  obtain ⟨p, l, e, s, m, args, below, meth, c, D, A, τ, ρ0, n0, Q, ⟨hx, hb, hts, hown, hnm, hml⟩, ⟨hK, hA, hT⟩, rfl⟩ := C
  exact fun ρ H locs ls h1 h3 h4 h5 h6 => lv_lload hx hb d (h6.2.2 i _ hl) (kk ρ H locs ls h1 h3 h4 h5 h6)
theorem r_aload_n (C : Sem cc own nm nL R g) {j : Fin 4} {i : Nat} {x : Nat} (d : decode cc pc = .ok (.aload_n j, 1)) (hi : (j : Nat) = i) (hl : lv[i]? = some (some (.ref x))) (kk : g k n θ (pc + 1) lv (.ref x :: st)) : g k n θ pc lv st := by
  obtain ⟨p, l, e, s, m, args, below, meth, c, D, A, τ, ρ0, n0, Q, ⟨hx, hb, hts, hown, hnm, hml⟩, ⟨hK, hA, hT⟩, rfl⟩ := C
  exact fun ρ H locs ls h1 h3 h4 h5 h6 => lv_aload_n hx hb d hi (h6.2.2 i _ hl) (kk ρ H locs ls h1 h3 h4 h5 h6)
theorem r_aload (C : Sem cc own nm nL R g) {i : Nat} {x : Nat} (d : decode cc pc = .ok (.aload i, 2)) (hl : lv[i]? = some (some (.ref x))) (kk : g k n θ (pc + 2) lv (.ref x :: st)) : g k n θ pc lv st := by
  obtain ⟨p, l, e, s, m, args, below, meth, c, D, A, τ, ρ0, n0, Q, ⟨hx, hb, hts, hown, hnm, hml⟩, ⟨hK, hA, hT⟩, rfl⟩ := C
  exact fun ρ H locs ls h1 h3 h4 h5 h6 => lv_aload hx hb d (h6.2.2 i _ hl) (kk ρ H locs ls h1 h3 h4 h5 h6)
theorem r_istore_n (C : Sem cc own nm nL R g) {j : Fin 4} {i : Nat} {x : Int32} {lv' : List (Option Value)} (d : decode cc pc = .ok (.istore_n j, 1)) (hi : (j : Nat) = i) (hn : i < lv.length) (hf : xN lv i) (hl : lv.set i (some (.int x)) = lv') (kk : g k n θ (pc + 1) lv' st) : g k n θ pc lv (.int x :: st) := by
  obtain ⟨p, l, e, s, m, args, below, meth, c, D, A, τ, ρ0, n0, Q, ⟨hx, hb, hts, hown, hnm, hml⟩, ⟨hK, hA, hT⟩, rfl⟩ := C
  subst hl
  exact fun ρ H locs ls h1 h3 h4 h5 h6 => lv_istore_n hx hb d hi (xL_has h6) hn rfl (fun ls' h => kk ρ H locs ls' h1 h3 h4 h5 (xL_set1 (v := .int x) hn hf h))
theorem r_istore (C : Sem cc own nm nL R g) {i : Nat} {x : Int32} {lv' : List (Option Value)} (d : decode cc pc = .ok (.istore i, 2)) (hn : i < lv.length) (hf : xN lv i) (hl : lv.set i (some (.int x)) = lv') (kk : g k n θ (pc + 2) lv' st) : g k n θ pc lv (.int x :: st) := by
  obtain ⟨p, l, e, s, m, args, below, meth, c, D, A, τ, ρ0, n0, Q, ⟨hx, hb, hts, hown, hnm, hml⟩, ⟨hK, hA, hT⟩, rfl⟩ := C
  subst hl
  exact fun ρ H locs ls h1 h3 h4 h5 h6 => lv_istore hx hb d (xL_has h6) hn rfl (fun ls' h => kk ρ H locs ls' h1 h3 h4 h5 (xL_set1 (v := .int x) hn hf h))
theorem r_astore_n (C : Sem cc own nm nL R g) {j : Fin 4} {i : Nat} {x : Nat} {lv' : List (Option Value)} (d : decode cc pc = .ok (.astore_n j, 1)) (hi : (j : Nat) = i) (hn : i < lv.length) (hf : xN lv i) (hl : lv.set i (some (.ref x)) = lv') (kk : g k n θ (pc + 1) lv' st) : g k n θ pc lv (.ref x :: st) := by
  obtain ⟨p, l, e, s, m, args, below, meth, c, D, A, τ, ρ0, n0, Q, ⟨hx, hb, hts, hown, hnm, hml⟩, ⟨hK, hA, hT⟩, rfl⟩ := C
  subst hl
  exact fun ρ H locs ls h1 h3 h4 h5 h6 => lv_astore_n hx hb d hi (xL_has h6) hn rfl (fun ls' h => kk ρ H locs ls' h1 h3 h4 h5 (xL_set1 (v := .ref x) hn hf h))
theorem r_astore (C : Sem cc own nm nL R g) {i : Nat} {x : Nat} {lv' : List (Option Value)} (d : decode cc pc = .ok (.astore i, 2)) (hn : i < lv.length) (hf : xN lv i) (hl : lv.set i (some (.ref x)) = lv') (kk : g k n θ (pc + 2) lv' st) : g k n θ pc lv (.ref x :: st) := by
  obtain ⟨p, l, e, s, m, args, below, meth, c, D, A, τ, ρ0, n0, Q, ⟨hx, hb, hts, hown, hnm, hml⟩, ⟨hK, hA, hT⟩, rfl⟩ := C
  subst hl
  exact fun ρ H locs ls h1 h3 h4 h5 h6 => lv_astore hx hb d (xL_has h6) hn rfl (fun ls' h => kk ρ H locs ls' h1 h3 h4 h5 (xL_set1 (v := .ref x) hn hf h))
theorem r_lstore_n (C : Sem cc own nm nL R g) {j : Fin 4} {i : Nat} {x : Int64} {lv' : List (Option Value)} (d : decode cc pc = .ok (.lstore_n j, 1)) (hi : (j : Nat) = i) (hn : i + 1 < lv.length) (hf : xN lv i) (hl : (lv.set i (some (.long x))).set (i + 1) none = lv') (kk : g k n θ (pc + 1) lv' st) : g k n θ pc lv (.long x :: st) := by
  obtain ⟨p, l, e, s, m, args, below, meth, c, D, A, τ, ρ0, n0, Q, ⟨hx, hb, hts, hown, hnm, hml⟩, ⟨hK, hA, hT⟩, rfl⟩ := C
  subst hl
  exact fun ρ H locs ls h1 h3 h4 h5 h6 => lv_lstore_n hx hb d hi (xL_has h6) hn rfl (fun ls' h => kk ρ H locs ls' h1 h3 h4 h5 (xL_set2 (v := .long x) hn hf h))
theorem r_lstore (C : Sem cc own nm nL R g) {i : Nat} {x : Int64} {lv' : List (Option Value)} (d : decode cc pc = .ok (.lstore i, 2)) (hn : i + 1 < lv.length) (hf : xN lv i) (hl : (lv.set i (some (.long x))).set (i + 1) none = lv') (kk : g k n θ (pc + 2) lv' st) : g k n θ pc lv (.long x :: st) := by
  obtain ⟨p, l, e, s, m, args, below, meth, c, D, A, τ, ρ0, n0, Q, ⟨hx, hb, hts, hown, hnm, hml⟩, ⟨hK, hA, hT⟩, rfl⟩ := C
  subst hl
  exact fun ρ H locs ls h1 h3 h4 h5 h6 => lv_lstore hx hb d (xL_has h6) hn rfl (fun ls' h => kk ρ H locs ls' h1 h3 h4 h5 (xL_set2 (v := .long x) hn hf h))
end FW
end
section
section FW
variable {cc : ByteArray} {own nm : String} {nL : Nat} {R : Room} {g : Nat → Nat → List xE → Nat → List (Option Value) → List Value → Prop} {k n : Nat} {θ : List xE} {pc : Nat} {lv : List (Option Value)} {st : List Value}
theorem r_iadd (C : Sem cc own nm nL R g) {x y : Int32} (d : decode cc pc = .ok (.iadd, 1))  (kk : g k n θ (pc + 1) lv (.int (x + y) :: st)) : g k n θ pc lv (.int y :: .int x :: st) := by
  obtain ⟨p, l, e, s, m, args, below, meth, c, D, A, τ, ρ0, n0, Q, ⟨hx, hb, hts, hown, hnm, hml⟩, ⟨hK, hA, hT⟩, rfl⟩ := C
  exact fun ρ H locs ls h1 h3 h4 h5 h6 => lv_iadd hx hb d  (kk ρ H locs ls h1 h3 h4 h5 h6)
theorem r_isub (C : Sem cc own nm nL R g) {x y : Int32} (d : decode cc pc = .ok (.isub, 1))  (kk : g k n θ (pc + 1) lv (.int (x - y) :: st)) : g k n θ pc lv (.int y :: .int x :: st) := by
  obtain ⟨p, l, e, s, m, args, below, meth, c, D, A, τ, ρ0, n0, Q, ⟨hx, hb, hts, hown, hnm, hml⟩, ⟨hK, hA, hT⟩, rfl⟩ := C
  exact fun ρ H locs ls h1 h3 h4 h5 h6 => lv_isub hx hb d  (kk ρ H locs ls h1 h3 h4 h5 h6)
theorem r_imul (C : Sem cc own nm nL R g) {x y : Int32} (d : decode cc pc = .ok (.imul, 1))  (kk : g k n θ (pc + 1) lv (.int (x * y) :: st)) : g k n θ pc lv (.int y :: .int x :: st) := by
  obtain ⟨p, l, e, s, m, args, below, meth, c, D, A, τ, ρ0, n0, Q, ⟨hx, hb, hts, hown, hnm, hml⟩, ⟨hK, hA, hT⟩, rfl⟩ := C
  exact fun ρ H locs ls h1 h3 h4 h5 h6 => lv_imul hx hb d  (kk ρ H locs ls h1 h3 h4 h5 h6)
theorem r_iand (C : Sem cc own nm nL R g) {x y : Int32} (d : decode cc pc = .ok (.iand, 1))  (kk : g k n θ (pc + 1) lv (.int (x &&& y) :: st)) : g k n θ pc lv (.int y :: .int x :: st) := by
  obtain ⟨p, l, e, s, m, args, below, meth, c, D, A, τ, ρ0, n0, Q, ⟨hx, hb, hts, hown, hnm, hml⟩, ⟨hK, hA, hT⟩, rfl⟩ := C
  exact fun ρ H locs ls h1 h3 h4 h5 h6 => lv_iand hx hb d  (kk ρ H locs ls h1 h3 h4 h5 h6)
theorem r_ior (C : Sem cc own nm nL R g) {x y : Int32} (d : decode cc pc = .ok (.ior, 1))  (kk : g k n θ (pc + 1) lv (.int (x ||| y) :: st)) : g k n θ pc lv (.int y :: .int x :: st) := by
  obtain ⟨p, l, e, s, m, args, below, meth, c, D, A, τ, ρ0, n0, Q, ⟨hx, hb, hts, hown, hnm, hml⟩, ⟨hK, hA, hT⟩, rfl⟩ := C
  exact fun ρ H locs ls h1 h3 h4 h5 h6 => lv_ior hx hb d  (kk ρ H locs ls h1 h3 h4 h5 h6)
theorem r_ixor (C : Sem cc own nm nL R g) {x y : Int32} (d : decode cc pc = .ok (.ixor, 1))  (kk : g k n θ (pc + 1) lv (.int (x ^^^ y) :: st)) : g k n θ pc lv (.int y :: .int x :: st) := by
  obtain ⟨p, l, e, s, m, args, below, meth, c, D, A, τ, ρ0, n0, Q, ⟨hx, hb, hts, hown, hnm, hml⟩, ⟨hK, hA, hT⟩, rfl⟩ := C
  exact fun ρ H locs ls h1 h3 h4 h5 h6 => lv_ixor hx hb d  (kk ρ H locs ls h1 h3 h4 h5 h6)
theorem r_idiv (C : Sem cc own nm nL R g) {x y : Int32} (d : decode cc pc = .ok (.idiv, 1)) (hne : ¬ y = 0) (kk : g k n θ (pc + 1) lv (.int (x / y) :: st)) : g k n θ pc lv (.int y :: .int x :: st) := by
  obtain ⟨p, l, e, s, m, args, below, meth, c, D, A, τ, ρ0, n0, Q, ⟨hx, hb, hts, hown, hnm, hml⟩, ⟨hK, hA, hT⟩, rfl⟩ := C
  exact fun ρ H locs ls h1 h3 h4 h5 h6 => lv_idiv hx hb d hne (kk ρ H locs ls h1 h3 h4 h5 h6)
theorem r_irem (C : Sem cc own nm nL R g) {x y : Int32} (d : decode cc pc = .ok (.irem, 1)) (hne : ¬ y = 0) (kk : g k n θ (pc + 1) lv (.int (x - x / y * y) :: st)) : g k n θ pc lv (.int y :: .int x :: st) := by
  obtain ⟨p, l, e, s, m, args, below, meth, c, D, A, τ, ρ0, n0, Q, ⟨hx, hb, hts, hown, hnm, hml⟩, ⟨hK, hA, hT⟩, rfl⟩ := C
  exact fun ρ H locs ls h1 h3 h4 h5 h6 => lv_irem hx hb d hne (kk ρ H locs ls h1 h3 h4 h5 h6)
theorem r_ineg (C : Sem cc own nm nL R g) {x : Int32} (d : decode cc pc = .ok (.ineg, 1))  (kk : g k n θ (pc + 1) lv (.int (-x) :: st)) : g k n θ pc lv (.int x :: st) := by
  obtain ⟨p, l, e, s, m, args, below, meth, c, D, A, τ, ρ0, n0, Q, ⟨hx, hb, hts, hown, hnm, hml⟩, ⟨hK, hA, hT⟩, rfl⟩ := C
  exact fun ρ H locs ls h1 h3 h4 h5 h6 => lv_ineg hx hb d  (kk ρ H locs ls h1 h3 h4 h5 h6)
theorem r_ishl (C : Sem cc own nm nL R g) {x y : Int32} (d : decode cc pc = .ok (.ishl, 1))  (kk : g k n θ (pc + 1) lv (.int (x <<< (y &&& 31)) :: st)) : g k n θ pc lv (.int y :: .int x :: st) := by
  obtain ⟨p, l, e, s, m, args, below, meth, c, D, A, τ, ρ0, n0, Q, ⟨hx, hb, hts, hown, hnm, hml⟩, ⟨hK, hA, hT⟩, rfl⟩ := C
  exact fun ρ H locs ls h1 h3 h4 h5 h6 => lv_ishl hx hb d  (kk ρ H locs ls h1 h3 h4 h5 h6)
theorem r_ishr (C : Sem cc own nm nL R g) {x y : Int32} (d : decode cc pc = .ok (.ishr, 1))  (kk : g k n θ (pc + 1) lv (.int (x >>> (y &&& 31)) :: st)) : g k n θ pc lv (.int y :: .int x :: st) := by
  obtain ⟨p, l, e, s, m, args, below, meth, c, D, A, τ, ρ0, n0, Q, ⟨hx, hb, hts, hown, hnm, hml⟩, ⟨hK, hA, hT⟩, rfl⟩ := C
  exact fun ρ H locs ls h1 h3 h4 h5 h6 => lv_ishr hx hb d  (kk ρ H locs ls h1 h3 h4 h5 h6)
theorem r_iushr (C : Sem cc own nm nL R g) {x y v : Int32} (d : decode cc pc = .ok (.iushr, 1)) (hv : (x.toUInt32 >>> (y.toUInt32 &&& Int32.toUInt32 31)).toInt32 = v) (kk : g k n θ (pc + 1) lv (.int v :: st)) : g k n θ pc lv (.int y :: .int x :: st) := by
  obtain ⟨p, l, e, s, m, args, below, meth, c, D, A, τ, ρ0, n0, Q, ⟨hx, hb, hts, hown, hnm, hml⟩, ⟨hK, hA, hT⟩, rfl⟩ := C
  exact fun ρ H locs ls h1 h3 h4 h5 h6 => lv_iushr hx hb d hv (kk ρ H locs ls h1 h3 h4 h5 h6)
theorem r_i2l (C : Sem cc own nm nL R g) {x : Int32} {v : Int64} (d : decode cc pc = .ok (.i2l, 1)) (hv : x.toInt64 = v) (kk : g k n θ (pc + 1) lv (.long v :: st)) : g k n θ pc lv (.int x :: st) := by
  obtain ⟨p, l, e, s, m, args, below, meth, c, D, A, τ, ρ0, n0, Q, ⟨hx, hb, hts, hown, hnm, hml⟩, ⟨hK, hA, hT⟩, rfl⟩ := C
  exact fun ρ H locs ls h1 h3 h4 h5 h6 => lv_i2l hx hb d hv (kk ρ H locs ls h1 h3 h4 h5 h6)
theorem r_l2i (C : Sem cc own nm nL R g) {x : Int64} {v : Int32} (d : decode cc pc = .ok (.l2i, 1)) (hv : x.toInt32 = v) (kk : g k n θ (pc + 1) lv (.int v :: st)) : g k n θ pc lv (.long x :: st) := by
  obtain ⟨p, l, e, s, m, args, below, meth, c, D, A, τ, ρ0, n0, Q, ⟨hx, hb, hts, hown, hnm, hml⟩, ⟨hK, hA, hT⟩, rfl⟩ := C
  exact fun ρ H locs ls h1 h3 h4 h5 h6 => lv_l2i hx hb d hv (kk ρ H locs ls h1 h3 h4 h5 h6)
theorem r_i2b (C : Sem cc own nm nL R g) {x v : Int32} (d : decode cc pc = .ok (.i2b, 1)) (hv : x.toInt8.toInt32 = v) (kk : g k n θ (pc + 1) lv (.int v :: st)) : g k n θ pc lv (.int x :: st) := by
  obtain ⟨p, l, e, s, m, args, below, meth, c, D, A, τ, ρ0, n0, Q, ⟨hx, hb, hts, hown, hnm, hml⟩, ⟨hK, hA, hT⟩, rfl⟩ := C
  exact fun ρ H locs ls h1 h3 h4 h5 h6 => lv_i2b hx hb d hv (kk ρ H locs ls h1 h3 h4 h5 h6)
theorem r_i2s (C : Sem cc own nm nL R g) {x v : Int32} (d : decode cc pc = .ok (.i2s, 1)) (hv : x.toInt16.toInt32 = v) (kk : g k n θ (pc + 1) lv (.int v :: st)) : g k n θ pc lv (.int x :: st) := by
  obtain ⟨p, l, e, s, m, args, below, meth, c, D, A, τ, ρ0, n0, Q, ⟨hx, hb, hts, hown, hnm, hml⟩, ⟨hK, hA, hT⟩, rfl⟩ := C
  exact fun ρ H locs ls h1 h3 h4 h5 h6 => lv_i2s hx hb d hv (kk ρ H locs ls h1 h3 h4 h5 h6)
theorem r_ladd (C : Sem cc own nm nL R g) {x y : Int64} (d : decode cc pc = .ok (.ladd, 1))  (kk : g k n θ (pc + 1) lv (.long (x + y) :: st)) : g k n θ pc lv (.long y :: .long x :: st) := by
  obtain ⟨p, l, e, s, m, args, below, meth, c, D, A, τ, ρ0, n0, Q, ⟨hx, hb, hts, hown, hnm, hml⟩, ⟨hK, hA, hT⟩, rfl⟩ := C
  exact fun ρ H locs ls h1 h3 h4 h5 h6 => lv_ladd hx hb d  (kk ρ H locs ls h1 h3 h4 h5 h6)
theorem r_lmul (C : Sem cc own nm nL R g) {x y : Int64} (d : decode cc pc = .ok (.lmul, 1))  (kk : g k n θ (pc + 1) lv (.long (x * y) :: st)) : g k n θ pc lv (.long y :: .long x :: st) := by
  obtain ⟨p, l, e, s, m, args, below, meth, c, D, A, τ, ρ0, n0, Q, ⟨hx, hb, hts, hown, hnm, hml⟩, ⟨hK, hA, hT⟩, rfl⟩ := C
  exact fun ρ H locs ls h1 h3 h4 h5 h6 => lv_lmul hx hb d  (kk ρ H locs ls h1 h3 h4 h5 h6)
theorem r_ldiv (C : Sem cc own nm nL R g) {x y : Int64} (d : decode cc pc = .ok (.ldiv, 1)) (hne : ¬ y = 0) (kk : g k n θ (pc + 1) lv (.long (x / y) :: st)) : g k n θ pc lv (.long y :: .long x :: st) := by
  obtain ⟨p, l, e, s, m, args, below, meth, c, D, A, τ, ρ0, n0, Q, ⟨hx, hb, hts, hown, hnm, hml⟩, ⟨hK, hA, hT⟩, rfl⟩ := C
  exact fun ρ H locs ls h1 h3 h4 h5 h6 => lv_ldiv hx hb d hne (kk ρ H locs ls h1 h3 h4 h5 h6)
theorem r_lrem (C : Sem cc own nm nL R g) {x y : Int64} (d : decode cc pc = .ok (.lrem, 1)) (hne : ¬ y = 0) (kk : g k n θ (pc + 1) lv (.long (x - x / y * y) :: st)) : g k n θ pc lv (.long y :: .long x :: st) := by
  obtain ⟨p, l, e, s, m, args, below, meth, c, D, A, τ, ρ0, n0, Q, ⟨hx, hb, hts, hown, hnm, hml⟩, ⟨hK, hA, hT⟩, rfl⟩ := C
  exact fun ρ H locs ls h1 h3 h4 h5 h6 => lv_lrem hx hb d hne (kk ρ H locs ls h1 h3 h4 h5 h6)
theorem r_lcmp (C : Sem cc own nm nL R g) {x y : Int64} (d : decode cc pc = .ok (.lcmp, 1))  (kk : g k n θ (pc + 1) lv (.int (lg_cmp x y) :: st)) : g k n θ pc lv (.long y :: .long x :: st) := by
  obtain ⟨p, l, e, s, m, args, below, meth, c, D, A, τ, ρ0, n0, Q, ⟨hx, hb, hts, hown, hnm, hml⟩, ⟨hK, hA, hT⟩, rfl⟩ := C
  exact fun ρ H locs ls h1 h3 h4 h5 h6 => W.lcmp hx hb d  (kk ρ H locs ls h1 h3 h4 h5 h6)
theorem r_lconst (C : Sem cc own nm nL R g) {z : Fin 2} {v : Int64} (d : decode cc pc = .ok (.lconst z, 1)) (hv : Int64.ofNat (z : Nat) = v) (kk : g k n θ (pc + 1) lv (.long v :: st)) : g k n θ pc lv (st) := by
  obtain ⟨p, l, e, s, m, args, below, meth, c, D, A, τ, ρ0, n0, Q, ⟨hx, hb, hts, hown, hnm, hml⟩, ⟨hK, hA, hT⟩, rfl⟩ := C
  exact fun ρ H locs ls h1 h3 h4 h5 h6 => lv_lconst hx hb d hv (kk ρ H locs ls h1 h3 h4 h5 h6)
theorem r_dup (C : Sem cc own nm nL R g) {va : Value} (d : decode cc pc = .ok (.dup, 1)) (hva : va.category = 1) (kk : g k n θ (pc + 1) lv (va :: va :: st)) : g k n θ pc lv (va :: st) := by
  obtain ⟨p, l, e, s, m, args, below, meth, c, D, A, τ, ρ0, n0, Q, ⟨hx, hb, hts, hown, hnm, hml⟩, ⟨hK, hA, hT⟩, rfl⟩ := C
  exact fun ρ H locs ls h1 h3 h4 h5 h6 => lv_dup hx hb d ((xV_cat ρ va).trans hva) (kk ρ H locs ls h1 h3 h4 h5 h6)
theorem r_dup2_11 (C : Sem cc own nm nL R g) {va vb : Value} (d : decode cc pc = .ok (.dup2, 1)) (hva : va.category = 1) (hvb : vb.category = 1) (kk : g k n θ (pc + 1) lv (va :: vb :: va :: vb :: st)) : g k n θ pc lv (va :: vb :: st) := by
  obtain ⟨p, l, e, s, m, args, below, meth, c, D, A, τ, ρ0, n0, Q, ⟨hx, hb, hts, hown, hnm, hml⟩, ⟨hK, hA, hT⟩, rfl⟩ := C
  exact fun ρ H locs ls h1 h3 h4 h5 h6 => lv_dup2_11 hx hb d ((xV_cat ρ va).trans hva) ((xV_cat ρ vb).trans hvb) (kk ρ H locs ls h1 h3 h4 h5 h6)
theorem r_pop (C : Sem cc own nm nL R g) {va : Value} (d : decode cc pc = .ok (.pop, 1)) (hva : va.category = 1) (kk : g k n θ (pc + 1) lv (st)) : g k n θ pc lv (va :: st) := by
  obtain ⟨p, l, e, s, m, args, below, meth, c, D, A, τ, ρ0, n0, Q, ⟨hx, hb, hts, hown, hnm, hml⟩, ⟨hK, hA, hT⟩, rfl⟩ := C
  exact fun ρ H locs ls h1 h3 h4 h5 h6 => lv_pop hx hb d ((xV_cat ρ va).trans hva) (kk ρ H locs ls h1 h3 h4 h5 h6)
theorem r_ldc2 (C : Sem cc own nm nL R g) {ix : Nat} {v : Int64} (d : decode cc pc = .ok (.ldc2_w ix, 3)) (hw : Cond.constantLong own ix v ∈ TT) (kk : g k n θ (pc + 3) lv (.long v :: st)) : g k n θ pc lv st := by
  obtain ⟨p, l, e, s, m, args, below, meth, c, D, A, τ, ρ0, n0, Q, ⟨hx, hb, hts, hown, hnm, hml⟩, ⟨hK, hA, hT⟩, rfl⟩ := C
  exact fun ρ H locs ls h1 h3 h4 h5 h6 => lv_ldc2 hx hb hown (hts _ hw) d (kk ρ H locs ls h1 h3 h4 h5 h6)
theorem r_if_eq (C : Sem cc own nm nL R g) {x : Int32} {off : Int} {tgt : Nat} (d : decode cc pc = .ok (.ifCond .eq off, 3)) (ht : (pc : Int) + off = (tgt : Int)) (kt : x = 0 → g k n θ tgt lv st) (kf : ¬ x = 0 → g k n θ (pc + 3) lv st) : g k n θ pc lv (.int x :: st) := by
  obtain ⟨p, l, e, s, m, args, below, meth, c, D, A, τ, ρ0, n0, Q, ⟨hx, hb, hts, hown, hnm, hml⟩, ⟨hK, hA, hT⟩, rfl⟩ := C
  exact fun ρ H locs ls h1 h3 h4 h5 h6 => lv_if_eq hx hb d ht (fun q => kt q ρ H locs ls h1 h3 h4 h5 h6) (fun q => kf q ρ H locs ls h1 h3 h4 h5 h6)
theorem r_icmp_eq (C : Sem cc own nm nL R g) {x y : Int32} {off : Int} {tgt : Nat} (d : decode cc pc = .ok (.if_icmp .eq off, 3)) (ht : (pc : Int) + off = (tgt : Int)) (kt : x = y → g k n θ tgt lv st) (kf : ¬ x = y → g k n θ (pc + 3) lv st) : g k n θ pc lv (.int y :: .int x :: st) := by
  obtain ⟨p, l, e, s, m, args, below, meth, c, D, A, τ, ρ0, n0, Q, ⟨hx, hb, hts, hown, hnm, hml⟩, ⟨hK, hA, hT⟩, rfl⟩ := C
  exact fun ρ H locs ls h1 h3 h4 h5 h6 => lv_icmp_eq hx hb d ht (fun q => kt q ρ H locs ls h1 h3 h4 h5 h6) (fun q => kf q ρ H locs ls h1 h3 h4 h5 h6)
theorem r_if_ne (C : Sem cc own nm nL R g) {x : Int32} {off : Int} {tgt : Nat} (d : decode cc pc = .ok (.ifCond .ne off, 3)) (ht : (pc : Int) + off = (tgt : Int)) (kt : ¬ x = 0 → g k n θ tgt lv st) (kf : x = 0 → g k n θ (pc + 3) lv st) : g k n θ pc lv (.int x :: st) := by
  obtain ⟨p, l, e, s, m, args, below, meth, c, D, A, τ, ρ0, n0, Q, ⟨hx, hb, hts, hown, hnm, hml⟩, ⟨hK, hA, hT⟩, rfl⟩ := C
  exact fun ρ H locs ls h1 h3 h4 h5 h6 => lv_if_ne hx hb d ht (fun q => kt q ρ H locs ls h1 h3 h4 h5 h6) (fun q => kf q ρ H locs ls h1 h3 h4 h5 h6)
theorem r_icmp_ne (C : Sem cc own nm nL R g) {x y : Int32} {off : Int} {tgt : Nat} (d : decode cc pc = .ok (.if_icmp .ne off, 3)) (ht : (pc : Int) + off = (tgt : Int)) (kt : ¬ x = y → g k n θ tgt lv st) (kf : x = y → g k n θ (pc + 3) lv st) : g k n θ pc lv (.int y :: .int x :: st) := by
  obtain ⟨p, l, e, s, m, args, below, meth, c, D, A, τ, ρ0, n0, Q, ⟨hx, hb, hts, hown, hnm, hml⟩, ⟨hK, hA, hT⟩, rfl⟩ := C
  exact fun ρ H locs ls h1 h3 h4 h5 h6 => lv_icmp_ne hx hb d ht (fun q => kt q ρ H locs ls h1 h3 h4 h5 h6) (fun q => kf q ρ H locs ls h1 h3 h4 h5 h6)
theorem r_if_lt (C : Sem cc own nm nL R g) {x : Int32} {off : Int} {tgt : Nat} (d : decode cc pc = .ok (.ifCond .lt off, 3)) (ht : (pc : Int) + off = (tgt : Int)) (kt : x < 0 → g k n θ tgt lv st) (kf : ¬ x < 0 → g k n θ (pc + 3) lv st) : g k n θ pc lv (.int x :: st) := by
  obtain ⟨p, l, e, s, m, args, below, meth, c, D, A, τ, ρ0, n0, Q, ⟨hx, hb, hts, hown, hnm, hml⟩, ⟨hK, hA, hT⟩, rfl⟩ := C
  exact fun ρ H locs ls h1 h3 h4 h5 h6 => lv_if_lt hx hb d ht (fun q => kt q ρ H locs ls h1 h3 h4 h5 h6) (fun q => kf q ρ H locs ls h1 h3 h4 h5 h6)
theorem r_icmp_lt (C : Sem cc own nm nL R g) {x y : Int32} {off : Int} {tgt : Nat} (d : decode cc pc = .ok (.if_icmp .lt off, 3)) (ht : (pc : Int) + off = (tgt : Int)) (kt : x < y → g k n θ tgt lv st) (kf : ¬ x < y → g k n θ (pc + 3) lv st) : g k n θ pc lv (.int y :: .int x :: st) := by
  obtain ⟨p, l, e, s, m, args, below, meth, c, D, A, τ, ρ0, n0, Q, ⟨hx, hb, hts, hown, hnm, hml⟩, ⟨hK, hA, hT⟩, rfl⟩ := C
  exact fun ρ H locs ls h1 h3 h4 h5 h6 => lv_icmp_lt hx hb d ht (fun q => kt q ρ H locs ls h1 h3 h4 h5 h6) (fun q => kf q ρ H locs ls h1 h3 h4 h5 h6)
theorem r_if_ge (C : Sem cc own nm nL R g) {x : Int32} {off : Int} {tgt : Nat} (d : decode cc pc = .ok (.ifCond .ge off, 3)) (ht : (pc : Int) + off = (tgt : Int)) (kt : 0 ≤ x → g k n θ tgt lv st) (kf : ¬ 0 ≤ x → g k n θ (pc + 3) lv st) : g k n θ pc lv (.int x :: st) := by
  obtain ⟨p, l, e, s, m, args, below, meth, c, D, A, τ, ρ0, n0, Q, ⟨hx, hb, hts, hown, hnm, hml⟩, ⟨hK, hA, hT⟩, rfl⟩ := C
  exact fun ρ H locs ls h1 h3 h4 h5 h6 => lv_if_ge hx hb d ht (fun q => kt q ρ H locs ls h1 h3 h4 h5 h6) (fun q => kf q ρ H locs ls h1 h3 h4 h5 h6)
theorem r_icmp_ge (C : Sem cc own nm nL R g) {x y : Int32} {off : Int} {tgt : Nat} (d : decode cc pc = .ok (.if_icmp .ge off, 3)) (ht : (pc : Int) + off = (tgt : Int)) (kt : y ≤ x → g k n θ tgt lv st) (kf : ¬ y ≤ x → g k n θ (pc + 3) lv st) : g k n θ pc lv (.int y :: .int x :: st) := by
  obtain ⟨p, l, e, s, m, args, below, meth, c, D, A, τ, ρ0, n0, Q, ⟨hx, hb, hts, hown, hnm, hml⟩, ⟨hK, hA, hT⟩, rfl⟩ := C
  exact fun ρ H locs ls h1 h3 h4 h5 h6 => lv_icmp_ge hx hb d ht (fun q => kt q ρ H locs ls h1 h3 h4 h5 h6) (fun q => kf q ρ H locs ls h1 h3 h4 h5 h6)
theorem r_if_gt (C : Sem cc own nm nL R g) {x : Int32} {off : Int} {tgt : Nat} (d : decode cc pc = .ok (.ifCond .gt off, 3)) (ht : (pc : Int) + off = (tgt : Int)) (kt : 0 < x → g k n θ tgt lv st) (kf : ¬ 0 < x → g k n θ (pc + 3) lv st) : g k n θ pc lv (.int x :: st) := by
  obtain ⟨p, l, e, s, m, args, below, meth, c, D, A, τ, ρ0, n0, Q, ⟨hx, hb, hts, hown, hnm, hml⟩, ⟨hK, hA, hT⟩, rfl⟩ := C
  exact fun ρ H locs ls h1 h3 h4 h5 h6 => lv_if_gt hx hb d ht (fun q => kt q ρ H locs ls h1 h3 h4 h5 h6) (fun q => kf q ρ H locs ls h1 h3 h4 h5 h6)
theorem r_icmp_gt (C : Sem cc own nm nL R g) {x y : Int32} {off : Int} {tgt : Nat} (d : decode cc pc = .ok (.if_icmp .gt off, 3)) (ht : (pc : Int) + off = (tgt : Int)) (kt : y < x → g k n θ tgt lv st) (kf : ¬ y < x → g k n θ (pc + 3) lv st) : g k n θ pc lv (.int y :: .int x :: st) := by
  obtain ⟨p, l, e, s, m, args, below, meth, c, D, A, τ, ρ0, n0, Q, ⟨hx, hb, hts, hown, hnm, hml⟩, ⟨hK, hA, hT⟩, rfl⟩ := C
  exact fun ρ H locs ls h1 h3 h4 h5 h6 => lv_icmp_gt hx hb d ht (fun q => kt q ρ H locs ls h1 h3 h4 h5 h6) (fun q => kf q ρ H locs ls h1 h3 h4 h5 h6)
theorem r_if_le (C : Sem cc own nm nL R g) {x : Int32} {off : Int} {tgt : Nat} (d : decode cc pc = .ok (.ifCond .le off, 3)) (ht : (pc : Int) + off = (tgt : Int)) (kt : x ≤ 0 → g k n θ tgt lv st) (kf : ¬ x ≤ 0 → g k n θ (pc + 3) lv st) : g k n θ pc lv (.int x :: st) := by
  obtain ⟨p, l, e, s, m, args, below, meth, c, D, A, τ, ρ0, n0, Q, ⟨hx, hb, hts, hown, hnm, hml⟩, ⟨hK, hA, hT⟩, rfl⟩ := C
  exact fun ρ H locs ls h1 h3 h4 h5 h6 => lv_if_le hx hb d ht (fun q => kt q ρ H locs ls h1 h3 h4 h5 h6) (fun q => kf q ρ H locs ls h1 h3 h4 h5 h6)
theorem r_icmp_le (C : Sem cc own nm nL R g) {x y : Int32} {off : Int} {tgt : Nat} (d : decode cc pc = .ok (.if_icmp .le off, 3)) (ht : (pc : Int) + off = (tgt : Int)) (kt : x ≤ y → g k n θ tgt lv st) (kf : ¬ x ≤ y → g k n θ (pc + 3) lv st) : g k n θ pc lv (.int y :: .int x :: st) := by
  obtain ⟨p, l, e, s, m, args, below, meth, c, D, A, τ, ρ0, n0, Q, ⟨hx, hb, hts, hown, hnm, hml⟩, ⟨hK, hA, hT⟩, rfl⟩ := C
  exact fun ρ H locs ls h1 h3 h4 h5 h6 => lv_icmp_le hx hb d ht (fun q => kt q ρ H locs ls h1 h3 h4 h5 h6) (fun q => kf q ρ H locs ls h1 h3 h4 h5 h6)
theorem r_goto (C : Sem cc own nm nL R g) {off : Int} {tgt : Nat} (d : decode cc pc = .ok (.goto off, 3)) (ht : (pc : Int) + off = (tgt : Int)) (kk : g k n θ tgt lv st) : g k n θ pc lv st := by
  obtain ⟨p, l, e, s, m, args, below, meth, c, D, A, τ, ρ0, n0, Q, ⟨hx, hb, hts, hown, hnm, hml⟩, ⟨hK, hA, hT⟩, rfl⟩ := C
  exact fun ρ H locs ls h1 h3 h4 h5 h6 => lv_goto hx hb d ht (kk ρ H locs ls h1 h3 h4 h5 h6)
theorem r_iinc (C : Sem cc own nm nL R g) {i : Nat} {z : Int} {x v : Int32} {lv' : List (Option Value)} (d : decode cc pc = .ok (.iinc i z, 3)) (hl0 : lv[i]? = some (some (.int x))) (hv : x + Int32.ofInt z = v) (hf : xN lv i) (hl : lv.set i (some (.int v)) = lv') (kk : g k n θ (pc + 3) lv' st) : g k n θ pc lv st := by
  obtain ⟨p, l, e, s, m, args, below, meth, c, D, A, τ, ρ0, n0, Q, ⟨hx, hb, hts, hown, hnm, hml⟩, ⟨hK, hA, hT⟩, rfl⟩ := C
  subst hl
  intro ρ H locs ls h1 h3 h4 h5 h6
  have hn : i < lv.length := (List.getElem?_eq_some_iff.mp hl0).1
  obtain ⟨q, hq⟩ := List.getElem?_of_mem (xLl_in (ρ := ρ) (lv := lv) (q := (i, .int x)) |>.mpr ⟨.int x, hl0, rfl⟩)
  exact lv_iinc hx hb d (xL_has h6) hq hv hn rfl (fun ls' h => kk ρ H locs ls' h1 h3 h4 h5 (xL_set1 (v := .int v) hn hf h))
theorem r_tableOut (C : Sem cc own nm nL R g) {dflt lo hi : Int} {offs : Array Int} {len : Nat} {x : Int32} {tgt : Nat} (d : decode cc pc = .ok (.tableswitch dflt lo hi offs, len)) (h : x.toInt < lo ∨ hi < x.toInt) (ht : (pc : Int) + dflt = (tgt : Int)) (kk : g k n θ tgt lv st) : g k n θ pc lv (.int x :: st) := by
  obtain ⟨p, l, e, s, m, args, below, meth, c, D, A, τ, ρ0, n0, Q, ⟨hx, hb, hts, hown, hnm, hml⟩, ⟨hK, hA, hT⟩, rfl⟩ := C
  exact fun ρ H locs ls h1 h3 h4 h5 h6 => lv_tableOut hx hb d h ht (kk ρ H locs ls h1 h3 h4 h5 h6)
theorem r_tableIn (C : Sem cc own nm nL R g) {dflt lo hi : Int} {offs : Array Int} {len : Nat} {x : Int32} {off : Int} {tgt : Nat} (d : decode cc pc = .ok (.tableswitch dflt lo hi offs, len)) (q1 : ¬ x.toInt < lo) (q2 : ¬ hi < x.toInt) (ho : offs[(x.toInt - lo).toNat]? = some off) (ht : (pc : Int) + off = (tgt : Int)) (kk : g k n θ tgt lv st) : g k n θ pc lv (.int x :: st) := by
  obtain ⟨p, l, e, s, m, args, below, meth, c, D, A, τ, ρ0, n0, Q, ⟨hx, hb, hts, hown, hnm, hml⟩, ⟨hK, hA, hT⟩, rfl⟩ := C
  exact fun ρ H locs ls h1 h3 h4 h5 h6 => lv_tableIn hx hb d q1 q2 ho ht (kk ρ H locs ls h1 h3 h4 h5 h6)
theorem r_lookup (C : Sem cc own nm nL R g) {dflt : Int} {ps : Array (Int × Int)} {len : Nat} {x : Int32} {off : Int} {tgt : Nat} (d : decode cc pc = .ok (.lookupswitch dflt ps, len)) (hp : (ps.toList.zip (ps.toList.drop 1)).all (fun (a, next) => a.1 < next.1) = true) (ho : Op.lookupswitch.offset ps.toList dflt x.toInt = off) (ht : (pc : Int) + off = (tgt : Int)) (kk : g k n θ tgt lv st) : g k n θ pc lv (.int x :: st) := by
  obtain ⟨p, l, e, s, m, args, below, meth, c, D, A, τ, ρ0, n0, Q, ⟨hx, hb, hts, hown, hnm, hml⟩, ⟨hK, hA, hT⟩, rfl⟩ := C
  exact fun ρ H locs ls h1 h3 h4 h5 h6 => lv_lookup hx hb d hp ho ht (kk ρ H locs ls h1 h3 h4 h5 h6)
/-- a field of the class number ci, by the pool's place ix of the class own -/
def xF (own : String) (ix ci fk : Nat) : Prop := ∃ (C : String) (T : u_T) (N : Nat), vwCl[ci]? = some (C, T, N) ∧ fk < N ∧ Cond.fieldLink own ix (T fk).1 (T fk).2.1 (T fk).2.2.1 ∈ TT ∧ (∀ w ∈ u_ws C T N, w ∈ TT) ∧ (∃ ty : Nat → FieldType, ∀ j, j < N → parseFieldDescriptor (T j).2.2.1 = some (ty j)) ∧ (∀ a, a < N → ∀ b, b < N → a ≠ b → (T a).2.1 ≠ (T b).2.1)
def xFt (ci fk : Nat) (fin : Bool) (ty : FieldType) : Prop := match vwCl[ci]? with
  | some q => (q.2.1 fk).2.2.2 = fin ∧ parseFieldDescriptor (q.2.1 fk).2.2.1 = some ty ∧ (fin = true → (q.2.1 fk).1 = q.1)
  | none => False
theorem r_getfield (C : Sem cc own nm nL R g) {ix a ci fk : Nat} {fs : List Value} {v : Value} (F : xF own ix ci fk) (d : decode cc pc = .ok (.getfield ix, 3)) (hθ : θ[a]? = some (.inr (ci, fs))) (hv : fs[fk]? = some v) (kk : g k n θ (pc + 3) lv (v :: st)) : g k n θ pc lv (.ref a :: st) := by
  obtain ⟨p, l, e, s, m, args, below, meth, c, D, A, τ, ρ0, n0, Q, ⟨hx, hb, hts, hown, hnm, hml⟩, ⟨hK, hA, hT⟩, rfl⟩ := C
  obtain ⟨cn, T, N, a1, a2, a3, a4, a5, a6⟩ := F
  intro ρ H locs ls h1 h3 h4 h5 h6
  exact va_get (D := D) (cl := vwCl) hx hb hts a4 hown hK h3 a (xW_at hθ) a1 fk a2 (hts _ a3) (fun _ h9 => h9) (by rw [List.getElem?_map, hv]; rfl) d (kk ρ H locs ls h1 h3 h4 h5 h6)
theorem r_putfield (C : Sem cc own nm nL R g) {ix a ci fk : Nat} {fs : List Value} {v : Value} {ty : FieldType} {θ' : List xE} (F : xF own ix ci fk) (Ft : xFt ci fk false ty) (d : decode cc pc = .ok (.putfield ix, 3)) (hθ : θ[a]? = some (.inr (ci, fs))) (hv : fk < fs.length) (hn : ∀ ρ, narrow ty (xV ρ v) = xV ρ v ∧ fits ty (xV ρ v) = true) (hs : θ.set a (.inr (ci, fs.set fk v)) = θ') (kk : g k n θ' (pc + 3) lv st) : g k n θ pc lv (v :: .ref a :: st) := by
  obtain ⟨p, l, e, s, m, args, below, meth, c, D, A, τ, ρ0, n0, Q, ⟨hx, hb, hts, hown, hnm, hml⟩, ⟨hK, hA, hT⟩, rfl⟩ := C
  obtain ⟨cn, T, N, a1, a2, a3, a4, ⟨tys, a5⟩, a6⟩ := F
  simp only [xFt, a1] at Ft
  intro ρ H locs ls h1 h3 h4 h5 h6
  subst hs
  refine va_put (D := D) (cl := vwCl) hx hb hts a4 tys a5 a6 hown hK h3 h4 h5 a (xW_at hθ) a1 fk a2 (hts _ a3) (fun _ h9 => h9) Ft.1 Ft.2.1 (hn ρ).1 (hn ρ).2 (by rw [List.length_map]; exact hv) d (fun H1 locs1 w1 w2 w3 => ?_)
  have e1 : (xW ρ τ θ).set a (ρ a, .inr (ci, (fs.map (xV ρ)).set fk (xV ρ v))) = xW ρ τ (θ.set a (.inr (ci, fs.set fk v))) := by
    rw [← xW_set]
    simp only [xC, List.map_set]
  rw [e1] at w1 w2
  exact kk ρ H1 locs1 ls (by rw [List.length_set]; exact h1) w1 w2 w3 h6
theorem r_iaload (C : Sem cc own nm nL R g) {a N : Nat} {f : Nat → Int32} {x v : Int32} (j : Nat) (d : decode cc pc = .ok (.iaload, 1)) (hθ : θ[a]? = some (.inl (0, N, .inl f))) (hi : x = nI j) (hj : j < N) (hv : f j = v) (kk : g k n θ (pc + 1) lv (.int v :: st)) (hN : N < 2 ^ 31 := by decide) : g k n θ pc lv (.int x :: .ref a :: st) := by
  obtain ⟨p, l, e, s, m, args, below, meth, c, D, A, τ, ρ0, n0, Q, ⟨hx, hb, hts, hown, hnm, hml⟩, ⟨hK, hA, hT⟩, rfl⟩ := C
  intro ρ H locs ls h1 h3 h4 h5 h6
  subst hi
  subst hv
  have e1 : (nI j).toNatClampNeg = j := nI_clamp (Nat.lt_trans hj hN)
  refine va_iald (D := D) (cl := vwCl) (tys := xT τ) hx hb hK h3 a 0 (cA := τ 0) (n := N) (f := f) (xW_at hθ) rfl (vp_in_nI hj hN) d ?_
  rw [e1]
  exact kk ρ H locs ls h1 h3 h4 h5 h6
theorem r_iastore (C : Sem cc own nm nL R g) {a N : Nat} {f : Nat → Int32} {x : Int32} {y : Int32} {θ' : List xE} (j : Nat) (d : decode cc pc = .ok (.iastore, 1)) (hθ : θ[a]? = some (.inl (0, N, .inl f))) (hi : x = nI j) (hj : j < N)  (hs : θ.set a (.inl (0, N, .inl (upd f j y))) = θ') (kk : g k n θ' (pc + 1) lv st) (hN : N < 2 ^ 31 := by decide) : g k n θ pc lv (.int y :: .int x :: .ref a :: st) := by
  obtain ⟨p, l, e, s, m, args, below, meth, c, D, A, τ, ρ0, n0, Q, ⟨hx, hb, hts, hown, hnm, hml⟩, ⟨hK, hA, hT⟩, rfl⟩ := C
  intro ρ H locs ls h1 h3 h4 h5 h6
  subst hi
  subst hs
  have e1 : (nI j).toNatClampNeg = j := nI_clamp (Nat.lt_trans hj hN)
  refine va_iast (D := D) (cl := vwCl) (tys := xT τ) hx hb hK h3 h4 h5 a 0 (cA := τ 0) (n := N) (f := f) (xW_at hθ) rfl (vp_in_nI hj hN) d (fun H1 locs1 w1 w2 w3 => ?_)
  rw [e1] at w1 w2
  exact kk ρ H1 locs1 ls (by rw [List.length_set]; exact h1) (xW_set (ρ := ρ) (τ := τ) (θ := θ) (i := a) ▸ w1) (xW_set (ρ := ρ) (τ := τ) (θ := θ) (i := a) ▸ w2) w3 h6
theorem r_baload (C : Sem cc own nm nL R g) {a N : Nat} {f : Nat → Int32} {x v : Int32} (j : Nat) (d : decode cc pc = .ok (.baload, 1)) (hθ : θ[a]? = some (.inl (1, N, .inl f))) (hi : x = nI j) (hj : j < N) (hv : f j = v) (kk : g k n θ (pc + 1) lv (.int v :: st)) (hN : N < 2 ^ 31 := by decide) : g k n θ pc lv (.int x :: .ref a :: st) := by
  obtain ⟨p, l, e, s, m, args, below, meth, c, D, A, τ, ρ0, n0, Q, ⟨hx, hb, hts, hown, hnm, hml⟩, ⟨hK, hA, hT⟩, rfl⟩ := C
  intro ρ H locs ls h1 h3 h4 h5 h6
  subst hi
  subst hv
  have e1 : (nI j).toNatClampNeg = j := nI_clamp (Nat.lt_trans hj hN)
  refine va_zald (D := D) (cl := vwCl) (tys := xT τ) hx hb hK h3 a 1 (cA := τ 1) (n := N) (f := f) (xW_at hθ) rfl (vp_in_nI hj hN) d ?_
  rw [e1]
  exact kk ρ H locs ls h1 h3 h4 h5 h6
theorem r_bastore (C : Sem cc own nm nL R g) {a N : Nat} {f : Nat → Int32} {x : Int32} {y0 y : Int32} {θ' : List xE} (j : Nat) (d : decode cc pc = .ok (.bastore, 1)) (hθ : θ[a]? = some (.inl (1, N, .inl f))) (hi : x = nI j) (hj : j < N) (hy : vp_nar .boolean y0 = y) (hs : θ.set a (.inl (1, N, .inl (upd f j y))) = θ') (kk : g k n θ' (pc + 1) lv st) (hN : N < 2 ^ 31 := by decide) : g k n θ pc lv (.int y0 :: .int x :: .ref a :: st) := by
  obtain ⟨p, l, e, s, m, args, below, meth, c, D, A, τ, ρ0, n0, Q, ⟨hx, hb, hts, hown, hnm, hml⟩, ⟨hK, hA, hT⟩, rfl⟩ := C
  intro ρ H locs ls h1 h3 h4 h5 h6
  subst hi
  subst hs
  subst hy
  have e1 : (nI j).toNatClampNeg = j := nI_clamp (Nat.lt_trans hj hN)
  refine va_zast (D := D) (cl := vwCl) (tys := xT τ) hx hb hK h3 h4 h5 a 1 (cA := τ 1) (n := N) (f := f) (xW_at hθ) rfl (vp_in_nI hj hN) d (fun H1 locs1 w1 w2 w3 => ?_)
  rw [e1] at w1 w2
  exact kk ρ H1 locs1 ls (by rw [List.length_set]; exact h1) (xW_set (ρ := ρ) (τ := τ) (θ := θ) (i := a) ▸ w1) (xW_set (ρ := ρ) (τ := τ) (θ := θ) (i := a) ▸ w2) w3 h6
theorem r_aaload (C : Sem cc own nm nL R g) {a N t b : Nat} {f : Nat → Option Nat} {x : Int32} {cn : String} (j : Nat) (d : decode cc pc = .ok (.aaload, 1)) (hθ : θ[a]? = some (.inl (t, N, .inr (.inr (.inr (.inr f)))))) (ht : ∀ τ : Nat → ClassId, (xT τ)[t]? = some (τ t, .object cn)) (hi : x = nI j) (hj : j < N) (hv : f j = some b) (kk : g k n θ (pc + 1) lv (.ref b :: st)) (hN : N < 2 ^ 31 := by decide) : g k n θ pc lv (.int x :: .ref a :: st) := by
  obtain ⟨p, l, e, s, m, args, below, meth, c, D, A, τ, ρ0, n0, Q, ⟨hx, hb, hts, hown, hnm, hml⟩, ⟨hK, hA, hT⟩, rfl⟩ := C
  intro ρ H locs ls h1 h3 h4 h5 h6
  subst hi
  have e1 : (nI j).toNatClampNeg = j := nI_clamp (Nat.lt_trans hj hN)
  refine va_aldq (D := D) (cl := vwCl) (tys := xT τ) hx hb hK h3 a t (cA := τ t) (C := cn) (n := N) (f := fun q => (f q).map ρ) (xW_at hθ) (ht τ) (vp_in_nI hj hN) d ?_
  rw [e1, hv]
  exact kk ρ H locs ls h1 h3 h4 h5 h6
end FW
end
section
/-! ===== calls ===== -/
def xEr (σ : Nat → Nat) (x : xE) : xE := match x with
  | .inl a => .inl (a.1, xA σ a.2)
  | .inr o => .inr (o.1, o.2.map (xV σ))
theorem xV_xV (ρ σ : Nat → Nat) (v : Value) : xV ρ (xV σ v) = xV (fun i => ρ (σ i)) v := by cases v <;> rfl
theorem xA_xA (ρ σ : Nat → Nat) (a : vp_A) : xA ρ (xA σ a) = xA (fun i => ρ (σ i)) a := by
  obtain ⟨n, a⟩ := a
  rcases a with a | a | a | a | a <;> simp [xA, Function.comp_def]
theorem xC_xEr (ρ σ : Nat → Nat) (τ : Nat → ClassId) (x : xE) : xC ρ τ (xEr σ x) = xC (fun i => ρ (σ i)) τ x := by
  rcases x with a | o
  · simp only [xEr, xC, xA_xA]
  · simp only [xEr, xC, List.map_map]
    congr 2
    apply List.map_congr_left
    intro v _
    exact xV_xV ρ σ v
/-- the caller's place of the callee's place i -/
def xS (is : List Nat) (base : Nat) : Nat → Nat := fun i => match is[i]? with
  | some a => a
  | none => base + (i - is.length)
def xSet : List xE → List Nat → List xE → List xE
  | θ, i :: is, x :: xs => xSet (θ.set i x) is xs
  | θ, _, _ => θ
theorem xSet_len : ∀ (is : List Nat) (θ xs : List xE), (xSet θ is xs).length = θ.length
  | [], θ, xs => by cases xs <;> rfl
  | i :: is, θ, [] => rfl
  | i :: is, θ, x :: xs => by
    show (xSet (θ.set i x) is xs).length = _
    rw [xSet_len is, List.length_set]
theorem xSet_out : ∀ (is : List Nat) (θ xs : List xE) (i : Nat), i ∉ is → (xSet θ is xs)[i]? = θ[i]?
  | [], θ, xs, i, _ => by cases xs <;> rfl
  | a :: is, θ, [], i, _ => rfl
  | a :: is, θ, x :: xs, i, h => by
    show (xSet (θ.set a x) is xs)[i]? = _
    rw [xSet_out is _ _ _ (fun q => h (List.mem_cons_of_mem _ q)), List.getElem?_set_ne (fun q => h (by rw [q]; exact List.mem_cons_self))]
theorem xSet_in : ∀ (is : List Nat) (θ xs : List xE) (j i : Nat) (x : xE), is.Nodup → is[j]? = some i → xs[j]? = some x → i < θ.length → (xSet θ is xs)[i]? = some x
  | [], θ, xs, j, i, x, _, h, _, _ => by simp at h
  | a :: is, θ, [], j, i, x, _, _, h, _ => by simp at h
  | a :: is, θ, y :: xs, 0, i, x, hn, h, hx, hi => by
    simp only [List.getElem?_cons_zero, Option.some.injEq] at h hx
    subst h; subst hx
    show (xSet (θ.set a y) is xs)[a]? = _
    rw [xSet_out is _ _ _ (List.nodup_cons.mp hn).1, List.getElem?_set_self hi]
  | a :: is, θ, y :: xs, j + 1, i, x, hn, h, hx, hi => by
    simp only [List.getElem?_cons_succ] at h hx
    show (xSet (θ.set a y) is xs)[i]? = _
    exact xSet_in is _ _ j i x (List.nodup_cons.mp hn).2 h hx (by rw [List.length_set]; exact hi)
theorem xD_iff {A : Nat → Prop} {ρ : Nat → Nat} {τ : Nat → ClassId} {θ : List xE} : va_D A (xW ρ τ θ) ↔ (∀ i j, i < θ.length → j < θ.length → ρ i = ρ j → i = j) ∧ ∀ i, i < θ.length → A (ρ i) := by
  have hg : ∀ i, i < θ.length → ∃ x, (xW ρ τ θ)[i]? = some (ρ i, x) := fun i hi => ⟨_, xW_at (List.getElem?_eq_getElem hi)⟩
  have hb : ∀ (i : Nat) (q : Nat × va_E), (xW ρ τ θ)[i]? = some q → i < θ.length ∧ q.1 = ρ i := by
    intro i q hq
    rw [xW_get] at hq
    cases h : θ[i]? with
    | none => rw [h] at hq; cases hq
    | some x =>
      rw [h] at hq
      cases hq
      exact ⟨(List.getElem?_eq_some_iff.mp h).1, rfl⟩
  constructor
  · rintro ⟨h1, h2⟩
    refine ⟨fun i j hi hj e => ?_, fun i hi => ?_⟩
    · obtain ⟨x, hx⟩ := hg i hi
      obtain ⟨y, hy⟩ := hg j hj
      exact h1 i j _ _ hx hy e
    · obtain ⟨x, hx⟩ := hg i hi
      exact h2 i _ hx
  · rintro ⟨h1, h2⟩
    refine ⟨fun i j p q hp hq e => ?_, fun i q hq => ?_⟩
    · obtain ⟨a1, a2⟩ := hb i p hp
      obtain ⟨b1, b2⟩ := hb j q hq
      exact h1 i j a1 b1 (by rw [← a2, ← b2]; exact e)
    · obtain ⟨a1, a2⟩ := hb i q hq
      rw [a2]
      exact h2 i a1
def xPre (D : va_G) (τ : Nat → ClassId) (ρ : Nat → Nat) (θ : List xE) (sz : Nat) (U : State) : Prop := U.heap.size = sz ∧ va_P D vwCl (xW ρ τ θ) U.heap ∧ va_K D vwCl (xT τ) U ∧ va_D (fun _ => True) (xW ρ τ θ) ∧ (xTab (va_A (xW ρ τ θ) sz) U ∧ xNest U)
def xPost (D : va_G) (τ : Nat → ClassId) (ρ : Nat → Nat) (θ : List xE) (sz : Nat) (fin : Option Value → List xE → Prop) : Array Value → State → Outcome → State → Prop := fun _ st oc t => (∃ (r : Option Value) (θ' : List xE) (nw : List Nat), oc = .returned (r.map (xV (xX ρ θ.length nw))) ∧ θ'.length = θ.length + nw.length ∧ fin r θ' ∧ va_P D vwCl (xW (xX ρ θ.length nw) τ θ') t.heap ∧ va_D (va_A (xW ρ τ θ) sz) (xW (xX ρ θ.length nw) τ θ')) ∧ va_F (va_A (xW ρ τ θ) sz) st t
/-- a method's contract: from the world θ, with the arguments av, it returns, and fin holds of its answer and the world behind it -/
def MetA (y : MethodName) (ws : List Cond) (rm : Room) (av : List Value) (θ : List xE) (fin : Option Value → List xE → Prop) (mc ms : Nat) : Prop :=
  ∀ (l : Launch) (D : va_G) (τ : Nat → ClassId) (ρ : Nat → Nat) (sz : Nat), Met l y ws rm (va_Pc (av.map (xV ρ)) (xPre D τ ρ θ sz)) (xPost D τ ρ θ sz fin) mc ms (va_A (xW ρ τ θ) sz)
/-- the facts of the tables that a call of the method y needs -/
def xM (C : String) (y : MethodName) (b : ByteArray) (maxL : Nat) (ret : Option FieldType) (na : Nat) : Prop := Cond.code y b maxL ret ∈ TT ∧ Cond.initialized C ∈ TT ∧ (y.cls = C ∧ y.cls ≠ "java/lang/invoke/MethodHandle" ∧ y.cls ≠ "java/lang/invoke/VarHandle" ∧ (parseMethodDescriptor y.desc).map (fun d => d.parameters.length) = some na)
def xMV (C : String) (y : MethodName) (b : ByteArray) (maxL : Nat) (ret : Option FieldType) (na : Nat) : Prop := xM C y b maxL ret na ∧ Cond.instanceMethod y ∈ TT ∧ Cond.selects C y y ∈ TT
def xMS (C : String) (y : MethodName) (b : ByteArray) (maxL : Nat) (ret : Option FieldType) (na : Nat) : Prop := xM C y b maxL ret na ∧ Cond.static y ∈ TT
theorem xGV {own C : String} {ix : Nat} {y : MethodName} {b : ByteArray} {maxL na : Nat} {ret : Option FieldType} (hm : xMV C y b maxL ret na) (hl : Cond.methodLink own ix y ∈ TT) : GoodIn TT (wsV own ix C y (.code y b maxL ret :: TT)) := by
  intro w hw
  have hT : w ∈ TT := by
    unfold wsV at hw
    rcases List.mem_append.mp hw with h | h
    · simp only [List.mem_cons, List.not_mem_nil, or_false] at h
      rcases h with rfl | rfl | rfl | rfl
      · exact hl
      · exact hm.2.1
      · exact hm.2.2
      · exact hm.1.2.1
    · rcases List.mem_cons.mp h with rfl | h
      · exact hm.1.1
      · exact h
  exact ⟨hT, good_of_word (TT_good hT)⟩
theorem xGS {own C : String} {ix : Nat} {y : MethodName} {b : ByteArray} {maxL na : Nat} {ret : Option FieldType} (hm : xMS C y b maxL ret na) (hl : Cond.methodLink own ix y ∈ TT) : GoodIn TT (va_wsS own ix y (.code y b maxL ret :: TT)) := by
  intro w hw
  have hT : w ∈ TT := by
    unfold va_wsS at hw
    rcases List.mem_append.mp hw with h | h
    · simp only [List.mem_cons, List.not_mem_nil, or_false] at h
      rcases h with rfl | rfl | rfl
      · exact hl
      · exact hm.2
      · rw [hm.1.2.2.1]; exact hm.1.2.1
    · rcases List.mem_cons.mp h with rfl | h
      · exact hm.1.1
      · exact h
  exact ⟨hT, good_of_word (TT_good hT)⟩
end
section
theorem xX_app (ρ : Nat → Nat) (n : Nat) (a b : List Nat) : xX (xX ρ n a) (n + a.length) b = xX ρ n (a ++ b) := by
  funext i
  unfold xX
  by_cases h1 : i < n
  · rw [if_pos (by omega), if_pos h1, if_pos h1]
  · by_cases h2 : i < n + a.length
    · rw [if_pos h2, if_neg h1, if_neg h1, List.getElem?_append_left (by omega)]
    · rw [if_neg h2, if_neg h1, if_neg h1, List.getElem?_append_right (by omega), show i - n - a.length = i - (n + a.length) by omega]
      have h3 : a[i - n]? = none := List.getElem?_eq_none (by omega)
      rw [h3]
theorem xX_lt {ρ : Nat → Nat} {n i : Nat} {a : List Nat} (h : i < n) : xX ρ n a i = ρ i := if_pos h
theorem xX_ge {ρ : Nat → Nat} {n i : Nat} {a : List Nat} (h : n + a.length ≤ i) : xX ρ n a i = ρ i := by
  unfold xX
  rw [if_neg (by omega), List.getElem?_eq_none (by omega)]
theorem xIs {is : List Nat} {θ θc : List xE} {σ : Nat → Nat} (hθ : is.map (fun i => θ[i]?) = θc.map (fun x => some (xEr σ x))) : is.length = θc.length ∧ ∀ (j i : Nat), is[j]? = some i → ∃ x, θc[j]? = some x ∧ θ[i]? = some (xEr σ x) := by
  have h0 := congrArg List.length hθ
  rw [List.length_map, List.length_map] at h0
  refine ⟨h0, fun j i hj => ?_⟩
  have h1 := congrArg (fun l => l[j]?) hθ
  simp only [List.getElem?_map, hj, Option.map_some] at h1
  cases hc : θc[j]? with
  | none => rw [hc] at h1; cases h1
  | some x => rw [hc] at h1; exact ⟨x, rfl, Option.some.inj h1⟩
theorem xS_lt {is : List Nat} {b j i : Nat} (h : is[j]? = some i) : xS is b j = i := by
  unfold xS
  rw [h]
theorem xS_ge {is : List Nat} {b j : Nat} (h : is.length ≤ j) : xS is b j = b + (j - is.length) := by
  unfold xS
  rw [List.getElem?_eq_none h]
section CL
variable {s : State} {D : va_G} {A : Nat → Prop} {τ : Nat → ClassId} {ρ : Nat → Nat} {θ θc : List xE} {H : Heap} {locs : List Loc} {is : List Nat}
theorem xWc_at {σ : Nat → Nat} (hθ : is.map (fun i => θ[i]?) = θc.map (fun x => some (xEr σ x))) (hσ : ∀ (j i : Nat), is[j]? = some i → σ j = i) {j : Nat} {q : Nat × va_E} (hq : (xW (fun i => ρ (σ i)) τ θc)[j]? = some q) : ∃ i, is[j]? = some i ∧ q.1 = ρ i ∧ (xW ρ τ θ)[i]? = some q := by
  obtain ⟨hl, hi⟩ := xIs hθ
  rw [xW_get] at hq
  cases hc : θc[j]? with
  | none => rw [hc] at hq; cases hq
  | some x =>
    rw [hc] at hq
    cases hq
    have hj : j < is.length := by rw [hl]; exact (List.getElem?_eq_some_iff.mp hc).1
    obtain ⟨x', h1, h2⟩ := hi j _ (List.getElem?_eq_getElem hj)
    cases hc.symm.trans h1
    refine ⟨is[j], List.getElem?_eq_getElem hj, ?_, ?_⟩
    · show ρ (σ j) = _
      rw [hσ j _ (List.getElem?_eq_getElem hj)]
    · rw [xW_at h2, xC_xEr]
      show _ = some (ρ (σ j), _)
      rw [hσ j _ (List.getElem?_eq_getElem hj)]
theorem xFree {σ : Nat → Nat} (hθ : is.map (fun i => θ[i]?) = θc.map (fun x => some (xEr σ x))) (hσ : ∀ (j i : Nat), is[j]? = some i → σ j = i) (h4 : va_D A (xW ρ τ θ)) (h5 : va_S A s.heap H locs) (hA : ∀ q : Nat, s.heap.size ≤ q → A q) : ∀ q, va_A (xW (fun i => ρ (σ i)) τ θc) H.size q → A q := by
  intro q hq
  rcases hq with ⟨j, e, hj⟩ | hq
  · obtain ⟨i, -, -, h⟩ := xWc_at hθ hσ hj
    exact h4.2 i _ h
  · exact hA q (Nat.le_trans h5.1 hq)
theorem xEnter {σ : Nat → Nat} (hθ : is.map (fun i => θ[i]?) = θc.map (fun x => some (xEr σ x))) (hσ : ∀ (j i : Nat), is[j]? = some i → σ j = i) (hnd : is.Nodup) (h3 : va_P D vwCl (xW ρ τ θ) H) (h4 : va_D A (xW ρ τ θ)) (h5 : va_S A s.heap H locs) (hK : va_K D vwCl (xT τ) s) (hA : ∀ q : Nat, s.heap.size ≤ q → A q) (hT : xTab A s ∧ xNest s) : ∀ U : State, U.heap = H → s.WarmedH U.vm → xPre D τ (fun i => ρ (σ i)) θc H.size U := by
  intro U hU hW
  subst hU
  refine ⟨rfl, fun j q hq => ?_, va_K.moved hW.alike hK, ⟨fun i j p q hp hq e => ?_, fun _ _ _ => trivial⟩, ⟨hT.1.moves hW.alike h5.2.1 (xFree hθ hσ h4 h5 hA), hT.2.warm hW⟩⟩
  · obtain ⟨i, -, -, h⟩ := xWc_at hθ hσ hq
    exact h3 i q h
  · obtain ⟨a, a1, -, a2⟩ := xWc_at hθ hσ hp
    obtain ⟨b, b1, -, b2⟩ := xWc_at hθ hσ hq
    have hab := h4.1 a b p q a2 b2 e
    subst hab
    exact ((List.getElem?_inj (List.getElem?_eq_some_iff.mp a1).1 hnd).mp (a1.trans b1.symm))
theorem xBlind {av : List Value} {sz : Nat} : FrameBlind (va_Pc av (xPre D τ ρ θ sz)) := by
  rintro a U g mk ⟨q0, q1, qP, qK, qD, qT⟩
  exact ⟨q0, q1, qP, va_K.moved (u := U) (U := U.calling g mk a) (Vm.Alike.refl U.vm) qK, qD, ⟨qT.1.moves (u := U) (U := U.calling g mk a) (Vm.Alike.refl U.vm) (fun _ _ _ => rfl) (fun _ h => h), qT.2.same (u := U) (U := U.calling g mk a) rfl⟩⟩
def xAft (θ : List xE) (is : List Nat) (θ' : List xE) : List xE := xSet θ is ((θ'.take is.length).map (xEr (xS is θ.length))) ++ (θ'.drop is.length).map (xEr (xS is θ.length))
theorem xLeave {θ' : List xE} {nw : List Nat} {H1 : Heap} (hθ : is.map (fun i => θ[i]?) = θc.map (fun x => some (xEr (xS is θ.length) x))) (hnd : is.Nodup) (h3 : va_P D vwCl (xW ρ τ θ) H) (h4 : va_D A (xW ρ τ θ)) (hFA : ∀ q, va_A (xW (fun i => ρ (xS is θ.length i)) τ θc) H.size q → A q)
    (hcl : ∀ (i : Nat) (x : xE), θ[i]? = some x → xC (xX ρ θ.length nw) τ x = xC ρ τ x)
    (hlen : θ'.length = θc.length + nw.length) (hP1 : va_P D vwCl (xW (xX (fun i => ρ (xS is θ.length i)) θc.length nw) τ θ') H1) (hD1 : va_D (va_A (xW (fun i => ρ (xS is θ.length i)) τ θc) H.size) (xW (xX (fun i => ρ (xS is θ.length i)) θc.length nw) τ θ')) (hk : ∀ q : Nat, q < H.size → ¬ va_A (xW (fun i => ρ (xS is θ.length i)) τ θc) H.size q → H1[q]? = H[q]?) :
    (xAft θ is θ').length = θ.length + nw.length ∧ va_P D vwCl (xW (xX ρ θ.length nw) τ (xAft θ is θ')) H1 ∧ va_D A (xW (xX ρ θ.length nw) τ (xAft θ is θ')) ∧ (fun i => xX ρ θ.length nw (xS is θ.length i)) = xX (fun i => ρ (xS is θ.length i)) θc.length nw := by
  obtain ⟨hl, hi⟩ := xIs hθ
  have hσ : ∀ (j i : Nat), is[j]? = some i → xS is θ.length j = i := fun j i h => xS_lt h
  have hin : ∀ (j i : Nat), is[j]? = some i → i < θ.length := fun j i h => by
    obtain ⟨x, -, h2⟩ := hi j i h
    exact (List.getElem?_eq_some_iff.mp h2).1
  have hρ : (fun i => xX ρ θ.length nw (xS is θ.length i)) = xX (fun i => ρ (xS is θ.length i)) θc.length nw := by
    funext i
    by_cases h : i < is.length
    · have h9 : xS is θ.length i < θ.length := by
        rw [hσ i _ (List.getElem?_eq_getElem h)]
        exact hin i _ (List.getElem?_eq_getElem h)
      rw [xX_lt h9, xX_lt (by omega)]
    · have hs : xS is θ.length i = θ.length + (i - is.length) := xS_ge (by omega)
      unfold xX
      rw [hs, if_neg (by omega), if_neg (by omega), show θ.length + (i - is.length) - θ.length = i - θc.length by omega]
      simp only [hs]
  have hρl : ∀ (j i : Nat), is[j]? = some i → xX (fun i => ρ (xS is θ.length i)) θc.length nw j = ρ i := by
    intro j i h
    have h1 : j < is.length := (List.getElem?_eq_some_iff.mp h).1
    rw [xX_lt (by omega), hσ j i h]
  have hρn : ∀ j, xX ρ θ.length nw (θ.length + j) = xX (fun i => ρ (xS is θ.length i)) θc.length nw (θc.length + j) := by
    intro j
    rw [← hρ]
    show _ = xX ρ θ.length nw (xS is θ.length (θc.length + j))
    rw [xS_ge (by omega), show θc.length + j - is.length = j by omega]
  have htl : (θ'.take is.length).length = is.length := by rw [List.length_take]; omega
  have hlen2 : (xAft θ is θ').length = θ.length + nw.length := by
    unfold xAft
    rw [List.length_append, xSet_len, List.length_map, List.length_drop]
    omega
  have hget1 : ∀ (j i : Nat) (x : xE), is[j]? = some i → θ'[j]? = some x → (xAft θ is θ')[i]? = some (xEr (xS is θ.length) x) := by
    intro j i x h1 h2
    unfold xAft
    rw [List.getElem?_append_left (by rw [xSet_len]; exact hin j i h1)]
    refine xSet_in is θ _ j i _ hnd h1 ?_ (hin j i h1)
    have h3 : j < is.length := (List.getElem?_eq_some_iff.mp h1).1
    rw [List.getElem?_map, List.getElem?_take, if_pos h3, h2]
    rfl
  have hget2 : ∀ i, i < θ.length → i ∉ is → (xAft θ is θ')[i]? = θ[i]? := by
    intro i h1 h2
    unfold xAft
    rw [List.getElem?_append_left (by rw [xSet_len]; exact h1), xSet_out is _ _ _ h2]
  have hget3 : ∀ j, (xAft θ is θ')[θ.length + j]? = (θ'[θc.length + j]?).map (xEr (xS is θ.length)) := by
    intro j
    unfold xAft
    rw [List.getElem?_append_right (by rw [xSet_len]; omega), xSet_len, List.getElem?_map, List.getElem?_drop, show is.length + (θ.length + j - θ.length) = θc.length + j by omega]
  have hnew : ∀ j, j < nw.length → H.size ≤ xX ρ θ.length nw (θ.length + j) ∧ A (xX ρ θ.length nw (θ.length + j)) := by
    intro j hj
    obtain ⟨d1, d2⟩ := xD_iff.mp hD1
    have h1 := d2 (θc.length + j) (by omega)
    rw [← hρn j] at h1
    refine ⟨?_, hFA _ h1⟩
    rcases h1 with ⟨q, e, hq⟩ | h1
    · exfalso
      obtain ⟨i, i1, i2, -⟩ := xWc_at hθ hσ hq
      have hq1 : q < is.length := (List.getElem?_eq_some_iff.mp i1).1
      have h2 := d1 q (θc.length + j) (by omega) (by omega) (by rw [hρl q i i1, ← hρn j]; exact i2.symm)
      omega
    · exact h1
  have hold : ∀ i, i < θ.length → xX ρ θ.length nw i = ρ i := fun i h => xX_lt h
  have hltH : ∀ i, i < θ.length → ρ i < H.size := fun i h => (h3 i _ (xW_at (List.getElem?_eq_getElem h))).lt
  refine ⟨hlen2, fun i q hq => ?_, xD_iff.mpr ⟨fun i j hi' hj' e => ?_, fun i hi' => ?_⟩, hρ⟩
  · rw [xW_get] at hq
    by_cases h1 : i < θ.length
    · by_cases h2 : i ∈ is
      · obtain ⟨j, hj⟩ := List.getElem?_of_mem h2
        have hjl : j < is.length := (List.getElem?_eq_some_iff.mp hj).1
        have hj' : j < θ'.length := by omega
        rw [hget1 j i _ hj (List.getElem?_eq_getElem hj')] at hq
        cases hq
        have h5 := hP1 j _ (xW_at (List.getElem?_eq_getElem hj'))
        rw [hρl j i hj] at h5
        show va_at D vwCl (xX ρ θ.length nw i, xC (xX ρ θ.length nw) τ (xEr (xS is θ.length) θ'[j])) H1
        rw [hold i h1, xC_xEr, hρ]
        exact h5
      · rw [hget2 i h1 h2, List.getElem?_eq_getElem h1] at hq
        cases hq
        show va_at D vwCl (xX ρ θ.length nw i, xC (xX ρ θ.length nw) τ θ[i]) H1
        rw [hold i h1, hcl i _ (List.getElem?_eq_getElem h1)]
        refine (h3 i _ (xW_at (List.getElem?_eq_getElem h1))).kept (hk _ (hltH i h1) (fun h => ?_))
        rcases h with ⟨j, e, hj⟩ | h
        · obtain ⟨i', i1, i2, i3⟩ := xWc_at hθ hσ hj
          have := (xD_iff.mp h4).1 i i' h1 (hin j i' i1) i2
          subst this
          exact h2 (List.mem_of_getElem? i1)
        · have := hltH i h1
          simp only at h
          omega
    · obtain ⟨j, rfl⟩ : ∃ j, i = θ.length + j := ⟨i - θ.length, by omega⟩
      rw [hget3 j] at hq
      cases hc : θ'[θc.length + j]? with
      | none => rw [hc] at hq; cases hq
      | some x =>
        rw [hc] at hq
        cases hq
        have h5 := hP1 _ _ (xW_at hc)
        show va_at D vwCl (xX ρ θ.length nw (θ.length + j), xC (xX ρ θ.length nw) τ (xEr (xS is θ.length) x)) H1
        rw [hρn j, xC_xEr, hρ]
        exact h5
  · rw [hlen2] at hi' hj'
    by_cases h1 : i < θ.length
    · by_cases h2 : j < θ.length
      · rw [hold i h1, hold j h2] at e
        exact (xD_iff.mp h4).1 i j h1 h2 e
      · obtain ⟨j', rfl⟩ : ∃ j', j = θ.length + j' := ⟨j - θ.length, by omega⟩
        have := (hnew j' (by omega)).1
        have := hltH i h1
        rw [hold i h1] at e
        omega
    · obtain ⟨i', rfl⟩ : ∃ i', i = θ.length + i' := ⟨i - θ.length, by omega⟩
      by_cases h2 : j < θ.length
      · have := (hnew i' (by omega)).1
        have := hltH j h2
        rw [hold j h2] at e
        omega
      · obtain ⟨j', rfl⟩ : ∃ j', j = θ.length + j' := ⟨j - θ.length, by omega⟩
        rw [hρn, hρn] at e
        have := (xD_iff.mp hD1).1 _ _ (by omega) (by omega) e
        omega
  · rw [hlen2] at hi'
    by_cases h1 : i < θ.length
    · rw [hold i h1]
      exact (xD_iff.mp h4).2 i h1
    · obtain ⟨i', rfl⟩ : ∃ i', i = θ.length + i' := ⟨i - θ.length, by omega⟩
      exact (hnew i' (by omega)).2
end CL
end
section
theorem xL_id {σ : Nat → Nat} (h : ∀ i, σ i = i) : (∀ v, xV σ v = v) ∧ ∀ x, xEr σ x = x := by
  obtain rfl : σ = fun i => i := funext h
  have h1 : ∀ v, xV (fun i => i) v = v := fun v => by cases v <;> rfl
  refine ⟨h1, fun x => ?_⟩
  rcases x with ⟨t, n, a⟩ | ⟨c, fs⟩
  · rcases a with a | a | a | a | a <;> simp [xEr, xA]
  · simp only [xEr]
    congr 2
    rw [List.map_congr_left (fun v _ => h1 v)]
    exact List.map_id' fs
theorem xV_cats (ρ : Nat → Nat) (st : List Value) : ((st.map (xV ρ)).map fun v => v.category) = st.map fun v => v.category := by
  rw [List.map_map]
  exact List.map_congr_left (fun v _ => xV_cat ρ v)
theorem xS_range (n : Nat) : ∀ i, xS (List.range n) n i = i := by
  intro i
  unfold xS
  by_cases h : i < n
  · rw [List.getElem?_range h]
  · rw [List.getElem?_eq_none (by rw [List.length_range]; omega), List.length_range]
    simp only
    omega
theorem xSame_map (θ : List xE) : (List.range θ.length).map (fun i => θ[i]?) = θ.map (fun x => some (xEr (xS (List.range θ.length) θ.length) x)) := by
  apply List.ext_getElem?
  intro j
  rw [List.getElem?_map, List.getElem?_map]
  by_cases h : j < θ.length
  · rw [List.getElem?_range h, List.getElem?_eq_getElem h]
    simp only [Option.map_some, (xL_id (xS_range θ.length)).2]
    rw [List.getElem?_eq_getElem h]
  · rw [List.getElem?_eq_none (by rw [List.length_range]; omega), List.getElem?_eq_none (by omega)]
    rfl
theorem xSet_range : ∀ (xs θ pre : List xE), xs.length = θ.length → xSet (pre ++ θ) ((List.range θ.length).map (fun i => pre.length + i)) xs = pre ++ xs
  | [], θ, pre, h => by
    cases θ with
    | nil => rfl
    | cons a b => simp at h
  | x :: xs, [], pre, h => by simp at h
  | x :: xs, a :: θ, pre, h => by
    have h1 : (List.range (a :: θ).length).map (fun i => pre.length + i) = pre.length :: ((List.range θ.length).map (fun i => (pre ++ [x]).length + i)) := by
      rw [List.length_cons, List.range_succ_eq_map, List.map_cons, List.map_map]
      congr 1
      apply List.map_congr_left
      intro i _
      simp only [Function.comp_apply, List.length_append, List.length_cons, List.length_nil]
      omega
    rw [h1]
    show xSet ((pre ++ a :: θ).set pre.length x) _ xs = _
    rw [List.set_append_right _ _ (Nat.le_refl _), Nat.sub_self, List.set_cons_zero]
    have h2 := xSet_range xs θ (pre ++ [x]) (by simpa using h)
    rw [List.append_assoc] at h2
    simpa using h2
theorem xAft_same {θ θ' : List xE} (h : θ'.length = θ.length) : xAft θ (List.range θ.length) θ' = θ' := by
  unfold xAft
  have h1 := xSet_range θ' θ [] h
  simp only [List.nil_append, List.length_nil, Nat.zero_add, List.map_id'] at h1
  have h3 : (θ'.take (List.range θ.length).length).map (xEr (xS (List.range θ.length) θ.length)) = θ' := by
    rw [List.map_congr_left (fun x _ => (xL_id (xS_range θ.length)).2 x), List.map_id', List.length_range, List.take_of_length_le (by omega)]
  rw [h3, h1, List.length_range, List.drop_of_length_le (by omega)]
  simp
theorem xAft_nil (θ : List xE) : xAft θ [] [] = θ := by
  unfold xAft
  simp [xSet]
theorem xMTT {C : String} {y : MethodName} {b : ByteArray} {maxL na : Nat} {ret : Option FieldType} (hm : xM C y b maxL ret na) {w : Cond} (hw : w ∈ Cond.code y b maxL ret :: TT) : w ∈ TT := by
  rcases List.mem_cons.mp hw with rfl | h
  · exact hm.1
  · exact h
section RW1
variable {p : Program} {l : Launch} {e : Env} {R : Room} {s : State} {m : MethodId} {args : Array Value} {below : List Frame} {meth : Method} {c : Code} {H : Heap} {locs : List Loc} {cells slots mc ms : Nat} {Q : State → Prop} {pc : Nat} {ls : Array Slot} {rest st0 : List Value} {a : Array Value} {A A1 : Nat → Prop} {D : va_G} {τ : Nat → ClassId} {ρ : Nat → Nat} {θc : List xE} {fin : Option Value → List xE → Prop} {free : Addr → Prop}
theorem xRun (hr : va_Run p l e R s m args below meth c H locs cells slots mc ms (F0 m pc ls st0) rest (xPost D τ ρ θc H.size fin a) free) (h5 : va_S A s.heap H locs) (hFA : ∀ q, va_A (xW ρ τ θc) H.size q → A q) (hf : ∀ q, free q → A q)
    (kk : ∀ (r : Option Value) (θ' : List xE) (nw : List Nat) (H1 : Heap) (locs1 : List Loc), θ'.length = θc.length + nw.length → fin r θ' → va_P D vwCl (xW (xX ρ θc.length nw) τ θ') H1 → va_D (va_A (xW ρ τ θc) H.size) (xW (xX ρ θc.length nw) τ θ') → (∀ q : Nat, q < H.size → ¬ va_A (xW ρ τ θc) H.size q → H1[q]? = H[q]?) → va_S A s.heap H1 locs1 → W p l e R s m args below meth c H1 locs1 (cells + mc) (slots + ms) Q (F0 m (pc + 3) ls ((r.map (xV (xX ρ θc.length nw))).toList ++ rest))) :
    W p l e R s m args below meth c H locs cells slots Q (F0 m pc ls st0) := by
  intro T hT X
  obtain ⟨v, st₀, t, T', L, h0, X', hL, e1, e2, ⟨⟨r, θ', nw, hv, hlen, hfin, hP, hD⟩, hz, hk⟩, st⟩ := hr T hT X
  cases hv
  rw [h0] at hz hk
  obtain ⟨t2, a1, b1⟩ := kk r θ' nw T'.heap (locs ++ L) hlen hfin (by rw [e1]; exact hP) hD (fun q h1 h2 => by rw [e1]; exact hk q h1 h2)
    ⟨Nat.le_trans h5.1 (by rw [e1]; exact hz), fun q h1 h2 => by rw [e1, hk q (Nat.lt_of_lt_of_le h1 h5.1) (fun z => h2 (hFA q z))]; exact h5.2.1 q h1 h2, fun q hq => by
      rcases List.mem_append.mp hq with h | h
      · exact h5.2.2 q h
      · exact hf _ (hL q h)⟩ T' rfl X'
  exact ⟨t2, st t2 a1, b1⟩
end RW1
/-- closed under the first N places -/
def xKv (N : Nat) (v : Value) : Prop := match v with
  | .ref i => i < N ∨ 1000000 ≤ i
  | _ => True
def xKe (N : Nat) (x : xE) : Prop := match x with
  | .inl (_, _, .inr (.inr (.inr (.inr g)))) => ∀ k i, g k = some i → i < N
  | .inl _ => True
  | .inr o => ∀ v ∈ o.2, xKv N v
theorem xKv_eq {N : Nat} {ρ ρ' : Nat → Nat} (hρ : ∀ i, i < N ∨ 1000000 ≤ i → ρ' i = ρ i) {v : Value} (h : xKv N v) : xV ρ' v = xV ρ v := by
  cases v with
  | ref i => exact congrArg Value.ref (hρ i h)
  | _ => rfl
theorem xKe_eq {N : Nat} {ρ ρ' : Nat → Nat} {τ : Nat → ClassId} (hρ : ∀ i, i < N ∨ 1000000 ≤ i → ρ' i = ρ i) {x : xE} (h : xKe N x) : xC ρ' τ x = xC ρ τ x := by
  rcases x with ⟨t, n, a⟩ | ⟨c, fs⟩
  · rcases a with a | a | a | a | a
    · rfl
    · rfl
    · rfl
    · rfl
    · simp only [xC, xA]
      congr 7
      funext k
      cases hg : a k with
      | none => rfl
      | some i => exact congrArg some (hρ i (Or.inl (h k i hg)))
  · simp only [xC]
    congr 2
    exact List.map_congr_left (fun v hv => xKv_eq hρ (h v hv))
/-- all that is closed: world, locals, stack -/
def xKa (N : Nat) (θ : List xE) (lv : List (Option Value)) (st : List Value) : Prop := (∀ (i : Nat) (x : xE), θ[i]? = some x → xKe N x) ∧ (∀ (i : Nat) (v : Value), lv[i]? = some (some v) → xKv N v) ∧ ∀ v ∈ st, xKv N v
section FW
variable {cc : ByteArray} {own nm : String} {nL : Nat} {R : Room} {g : Nat → Nat → List xE → Nat → List (Option Value) → List Value → Prop} {k n : Nat} {θ : List xE} {pc : Nat} {lv : List (Option Value)} {st : List Value}
variable {y : MethodName} {bytes : ByteArray} {maxL na ix mc ms : Nat} {ret : Option FieldType} {rm : Room} {θc : List xE} {fin : Option Value → List xE → Prop} {cn : String} {b : Nat} {st0 : List Value}
theorem r_callV (C : Sem cc own nm nL R g) (is : List Nat) {b' ci : Nat} {As' As : List Value} {fs : List Value} {T : u_T} {N : Nat} (hM : MetA y (.code y bytes maxL ret :: TT) rm (.ref b' :: As') θc fin mc ms) (hm : xMV cn y bytes maxL ret na) (hlk : Cond.methodLink own ix y ∈ TT) (d : decode cc pc = .ok (.invokevirtual ix, 3))
    (hθ : is.map (fun i => θ[i]?) = θc.map (fun x => some (xEr (xS is θ.length) x))) (hnd : is.Nodup) (hargs : (Value.ref b' :: As').map (xV (xS is θ.length)) = .ref b :: As) (hrecv : θ[b]? = some (.inr (ci, fs))) (hcl : vwCl[ci]? = some (cn, T, N)) (hst : st0 = As.reverse ++ .ref b :: st) (hna : As.length = na) (hroom : (st.map fun v => v.category).sum ≤ 8)
    (hR : rm.frames + 1 ≤ R.frames ∧ 8 + (maxL + 11) + rm.locals ≤ R.locals) (hrc : rm.cells = mc ∧ rm.slots = ms) (hkn : k + mc ≤ R.cells ∧ n + ms ≤ R.slots) (hL : lv.length = nL) (hfl : ∀ r θ', fin r θ' → θ'.length = θc.length)
    (kk : ∀ r θ', fin r θ' → g (k + mc) (n + ms) (xAft θ is θ') (pc + 3) lv ((r.map (xV (xS is θ.length))).toList ++ st)) : g k n θ pc lv st0 := by
  obtain ⟨p, l, e, s, m, args, below, meth, c, D, A, τ, ρ0, n0, Q, ⟨hx, hb, hts, hown, hnm, hml⟩, ⟨hK, hA, hT⟩, rfl⟩ := C
  subst hst
  intro ρ H locs ls h1 h3 h4 h5 h6
  have hσ : ∀ (j i : Nat), is[j]? = some i → xS is θ.length j = i := fun j i h => xS_lt h
  have hE := xEnter (s := s) hθ hσ hnd h3 h4 h5 hK hA hT
  have hFA := xFree (s := s) hθ hσ h4 h5 hA
  have hav : (Value.ref b' :: As').map (xV (fun i => ρ (xS is θ.length i))) = .ref (ρ b) :: As.map (xV ρ) := by
    have h7 := congrArg (List.map (xV ρ)) hargs
    rw [List.map_map] at h7
    rw [List.map_congr_left (fun v _ => (xV_xV ρ (xS is θ.length) v).symm)]
    exact h7
  have hcat : (((st.map (xV ρ))).map fun v => v.category).sum ≤ 8 := by
    rw [xV_cats]
    exact hroom
  have hM' := hM l D τ (fun i => ρ (xS is θ.length i)) H.size
  rw [hav] at hM'
  have hr := va_runV (p := p) (e := e) (R := R) (s := s) (below := below) (meth := meth) (locs := locs) (cells := k) (slots := n) (g := F0 m pc ls ((As.reverse ++ .ref b :: st).map (xV ρ))) (As := As.map (xV ρ)) (rest := st.map (xV ρ)) (b := ρ b) ⟨hx, hb, hml, hown, hts⟩ hM' (cwV na hts (xGV hm hlk) rfl hrc.1 hrc.2 hm.1.2.2 hR)
    ⟨xBlind, va_recv hK h3 hcl (xW_at hrecv), fun U hU hW => ⟨rfl, hE U hU hW⟩⟩ rfl (by rw [List.length_map]; exact hna) (h6.1.trans hL) (by simp [List.map_append, List.map_reverse, xV]) (lv_room hcat) d hkn
  refine xRun hr h5 hFA hFA (fun r θ' nw H1 locs1 g1 g2 g3 g4 g5 g6 => ?_)
  have hnw : nw = [] := by
    have h8 := hfl r θ' g2
    cases nw with
    | nil => rfl
    | cons a b => simp at g1; omega
  subst hnw
  obtain ⟨w1, w2, w3, w4⟩ := xLeave hθ hnd h3 h4 hFA (fun i x _ => by rw [xX_nil]) g1 g3 g4 g5
  rw [xX_nil] at w2 w3
  simp only [List.length_nil, Nat.add_zero] at w1
  have w5 := kk r θ' g2 ρ H1 locs1 ls (by rw [w1]; exact h1) w2 w3 g6 h6
  rw [xX_nil]
  have w6 : (((r.map (xV (xS is θ.length))).toList ++ st).map (xV ρ)) = (r.map (xV (fun i => ρ (xS is θ.length i)))).toList ++ st.map (xV ρ) := by
    cases r with
    | none => rfl
    | some v => simp [xV_xV]
  rw [w6] at w5
  exact w5
theorem r_callS (C : Sem cc own nm nL R g) (is : List Nat) {As' As : List Value} (hM : MetA y (.code y bytes maxL ret :: TT) rm As' θc fin mc ms) (hm : xMS cn y bytes maxL ret na) (hlk : Cond.methodLink own ix y ∈ TT) (d : decode cc pc = .ok (.invokestatic ix, 3))
    (hθ : is.map (fun i => θ[i]?) = θc.map (fun x => some (xEr (xS is θ.length) x))) (hnd : is.Nodup) (hargs : As'.map (xV (xS is θ.length)) = As) (hst : st0 = As.reverse ++ st) (hna : As.length = na) (hroom : (st.map fun v => v.category).sum ≤ 8)
    (hR : rm.frames + 1 ≤ R.frames ∧ 8 + (maxL + 11) + rm.locals ≤ R.locals) (hrc : rm.cells = mc ∧ rm.slots = ms) (hkn : k + mc ≤ R.cells ∧ n + ms ≤ R.slots) (hL : lv.length = nL) (hfl : ∀ r θ', fin r θ' → θ'.length = θc.length)
    (kk : ∀ r θ', fin r θ' → g (k + mc) (n + ms) (xAft θ is θ') (pc + 3) lv ((r.map (xV (xS is θ.length))).toList ++ st)) : g k n θ pc lv st0 := by
  obtain ⟨p, l, e, s, m, args, below, meth, c, D, A, τ, ρ0, n0, Q, ⟨hx, hb, hts, hown, hnm, hml⟩, ⟨hK, hA, hT⟩, rfl⟩ := C
  subst hst
  intro ρ H locs ls h1 h3 h4 h5 h6
  have hσ : ∀ (j i : Nat), is[j]? = some i → xS is θ.length j = i := fun j i h => xS_lt h
  have hE := xEnter (s := s) hθ hσ hnd h3 h4 h5 hK hA hT
  have hFA := xFree (s := s) hθ hσ h4 h5 hA
  have hav : As'.map (xV (fun i => ρ (xS is θ.length i))) = As.map (xV ρ) := by
    have h7 := congrArg (List.map (xV ρ)) hargs
    rw [List.map_map] at h7
    rw [List.map_congr_left (fun v _ => (xV_xV ρ (xS is θ.length) v).symm)]
    exact h7
  have hcat : (((st.map (xV ρ))).map fun v => v.category).sum ≤ 8 := by
    rw [xV_cats]
    exact hroom
  have hM' := hM l D τ (fun i => ρ (xS is θ.length i)) H.size
  rw [hav] at hM'
  have hr := va_runS (p := p) (e := e) (R := R) (s := s) (below := below) (meth := meth) (locs := locs) (cells := k) (slots := n) (g := F0 m pc ls ((As.reverse ++ st).map (xV ρ))) (As := As.map (xV ρ)) (rest := st.map (xV ρ)) ⟨hx, hb, hml, hown, hts⟩ hM' (va_cwS na hts (xGS hm hlk) rfl hrc.1 hrc.2 hm.1.2.2.2 hR)
    ⟨xBlind, fun U hU hW => ⟨rfl, hE U hU hW⟩⟩ rfl (by rw [List.length_map]; exact hna) (h6.1.trans hL) (by simp [List.map_append, List.map_reverse, xV]) (lv_room hcat) d hkn
  refine xRun hr h5 hFA hFA (fun r θ' nw H1 locs1 g1 g2 g3 g4 g5 g6 => ?_)
  have hnw : nw = [] := by
    have h8 := hfl r θ' g2
    cases nw with
    | nil => rfl
    | cons a b => simp at g1; omega
  subst hnw
  obtain ⟨w1, w2, w3, w4⟩ := xLeave hθ hnd h3 h4 hFA (fun i x _ => by rw [xX_nil]) g1 g3 g4 g5
  rw [xX_nil] at w2 w3
  simp only [List.length_nil, Nat.add_zero] at w1
  have w5 := kk r θ' g2 ρ H1 locs1 ls (by rw [w1]; exact h1) w2 w3 g6 h6
  rw [xX_nil]
  have w6 : (((r.map (xV (xS is θ.length))).toList ++ st).map (xV ρ)) = (r.map (xV (fun i => ρ (xS is θ.length i)))).toList ++ st.map (xV ρ) := by
    cases r with
    | none => rfl
    | some v => simp [xV_xV]
  rw [w6] at w5
  exact w5
theorem r_callSN (C : Sem cc own nm nL R g) (is : List Nat) {As' As : List Value} (hM : MetA y (.code y bytes maxL ret :: TT) rm As' θc fin mc ms) (hm : xMS cn y bytes maxL ret na) (hlk : Cond.methodLinkNest own ix y cn ∈ xNw) (d : decode cc pc = .ok (.invokestatic ix, 3))
    (hθ : is.map (fun i => θ[i]?) = θc.map (fun x => some (xEr (xS is θ.length) x))) (hnd : is.Nodup) (hargs : As'.map (xV (xS is θ.length)) = As) (hst : st0 = As.reverse ++ st) (hna : As.length = na) (hroom : (st.map fun v => v.category).sum ≤ 8)
    (hR : rm.frames + 1 ≤ R.frames ∧ 8 + (maxL + 11) + rm.locals ≤ R.locals) (hrc : rm.cells = mc ∧ rm.slots = ms) (hkn : k + mc ≤ R.cells ∧ n + ms ≤ R.slots) (hL : lv.length = nL) (hfl : ∀ r θ', fin r θ' → θ'.length = θc.length)
    (kk : ∀ r θ', fin r θ' → g (k + mc) (n + ms) (xAft θ is θ') (pc + 3) lv ((r.map (xV (xS is θ.length))).toList ++ st)) : g k n θ pc lv st0 := by
  obtain ⟨p, l, e, s, m, args, below, meth, c, D, A, τ, ρ0, n0, Q, ⟨hx, hb, hts, hown, hnm, hml⟩, ⟨hK, hA, hT⟩, rfl⟩ := C
  subst hst
  intro ρ H locs ls h1 h3 h4 h5 h6
  have hσ : ∀ (j i : Nat), is[j]? = some i → xS is θ.length j = i := fun j i h => xS_lt h
  have hE := xEnter (s := s) hθ hσ hnd h3 h4 h5 hK hA hT
  have hFA := xFree (s := s) hθ hσ h4 h5 hA
  have hav : As'.map (xV (fun i => ρ (xS is θ.length i))) = As.map (xV ρ) := by
    have h7 := congrArg (List.map (xV ρ)) hargs
    rw [List.map_map] at h7
    rw [List.map_congr_left (fun v _ => (xV_xV ρ (xS is θ.length) v).symm)]
    exact h7
  have hcat : (((st.map (xV ρ))).map fun v => v.category).sum ≤ 8 := by
    rw [xV_cats]
    exact hroom
  have hM' := hM l D τ (fun i => ρ (xS is θ.length i)) H.size
  rw [hav] at hM'
  have hr := va_runSN (host := cn) (p := p) (e := e) (R := R) (s := s) (below := below) (meth := meth) (locs := locs) (cells := k) (slots := n) (g := F0 m pc ls ((As.reverse ++ st).map (xV ρ))) (As := As.map (xV ρ)) (rest := st.map (xV ρ)) ⟨hx, hb, hml, hown, hts⟩ hM' ⟨va_cnB na hts (fun w hw => (⟨xMTT hm.1 hw, good_of_word (TT_good (xMTT hm.1 hw))⟩ : w ∈ TT ∧ _)) rfl hrc.1 hrc.2 (hT.2 _ hlk) (hts _ (by rw [hm.1.2.2.1]; exact hm.1.2.1)) hm.1.2.2.2 hR, hts _ hm.2, trivial⟩
    ⟨xBlind, fun U hU hW => ⟨rfl, hE U hU hW⟩⟩ rfl (by rw [List.length_map]; exact hna) (h6.1.trans hL) (by simp [List.map_append, List.map_reverse, xV]) (lv_room hcat) d hkn
  refine xRun hr h5 hFA hFA (fun r θ' nw H1 locs1 g1 g2 g3 g4 g5 g6 => ?_)
  have hnw : nw = [] := by
    have h8 := hfl r θ' g2
    cases nw with
    | nil => rfl
    | cons a b => simp at g1; omega
  subst hnw
  obtain ⟨w1, w2, w3, w4⟩ := xLeave hθ hnd h3 h4 hFA (fun i x _ => by rw [xX_nil]) g1 g3 g4 g5
  rw [xX_nil] at w2 w3
  simp only [List.length_nil, Nat.add_zero] at w1
  have w5 := kk r θ' g2 ρ H1 locs1 ls (by rw [w1]; exact h1) w2 w3 g6 h6
  rw [xX_nil]
  have w6 : (((r.map (xV (xS is θ.length))).toList ++ st).map (xV ρ)) = (r.map (xV (fun i => ρ (xS is θ.length i)))).toList ++ st.map (xV ρ) := by
    cases r with
    | none => rfl
    | some v => simp [xV_xV]
  rw [w6] at w5
  exact w5
theorem r_callV0 (C : Sem cc own nm nL R g) {ci : Nat} {As : List Value} {fs : List Value} {T : u_T} {N : Nat} {r : Option Value} {θ' : List xE} (hM : MetA y (.code y bytes maxL ret :: TT) rm (.ref b :: As) θ (fun a b => a = r ∧ b = θ') 0 0) (hm : xMV cn y bytes maxL ret na) (hlk : Cond.methodLink own ix y ∈ TT) (d : decode cc pc = .ok (.invokevirtual ix, 3))
    (hrecv : θ[b]? = some (.inr (ci, fs))) (hcl : vwCl[ci]? = some (cn, T, N)) (hst : st0 = As.reverse ++ .ref b :: st) (hna : As.length = na) (hroom : (st.map fun v => v.category).sum ≤ 8)
    (hR : rm.frames + 1 ≤ R.frames ∧ 8 + (maxL + 11) + rm.locals ≤ R.locals) (hrc : rm.cells = 0 ∧ rm.slots = 0) (hkn : k ≤ R.cells ∧ n ≤ R.slots) (hL : lv.length = nL) (hfl : θ'.length = θ.length)
    (kk : g k n θ' (pc + 3) lv (r.toList ++ st)) : g k n θ pc lv st0 := by
  refine r_callV C (List.range θ.length) hM hm hlk d (xSame_map θ) List.nodup_range ?_ hrecv hcl hst hna hroom hR hrc hkn hL (fun r' θ'' h => by rw [h.2]; exact hfl) (fun r' θ'' h => ?_)
  · rw [List.map_congr_left (fun v _ => (xL_id (xS_range θ.length)).1 v), List.map_id']
  · obtain ⟨rfl, rfl⟩ := h
    rw [xAft_same hfl]
    have h1 : (r'.map (xV (xS (List.range θ.length) θ.length))) = r' := by
      cases r' with
      | none => rfl
      | some v => exact congrArg some ((xL_id (xS_range θ.length)).1 v)
    rw [h1]
    exact kk
/-- a static method of numbers alone -/
theorem r_callS0 (C : Sem cc own nm nL R g) {As : List Value} {r : Option Value} (hM : MetA y (.code y bytes maxL ret :: TT) rm As [] (fun a b => a = r ∧ b = []) 0 0) (hm : xMS cn y bytes maxL ret na) (hlk : Cond.methodLink own ix y ∈ TT) (d : decode cc pc = .ok (.invokestatic ix, 3))
    (hargs : ∀ σ, As.map (xV σ) = As) (hr : ∀ σ, r.map (xV σ) = r) (hst : st0 = As.reverse ++ st) (hna : As.length = na) (hroom : (st.map fun v => v.category).sum ≤ 8)
    (hR : rm.frames + 1 ≤ R.frames ∧ 8 + (maxL + 11) + rm.locals ≤ R.locals) (hrc : rm.cells = 0 ∧ rm.slots = 0) (hkn : k ≤ R.cells ∧ n ≤ R.slots) (hL : lv.length = nL)
    (kk : g k n θ (pc + 3) lv (r.toList ++ st)) : g k n θ pc lv st0 := by
  refine r_callS C [] hM hm hlk d rfl List.nodup_nil (hargs _) hst hna hroom hR hrc hkn hL (fun r' θ'' h => by rw [h.2]) (fun r' θ'' h => ?_)
  obtain ⟨rfl, rfl⟩ := h
  rw [xAft_nil, hr]
  exact kk
theorem r_callSN0 (C : Sem cc own nm nL R g) {As : List Value} {r : Option Value} (hM : MetA y (.code y bytes maxL ret :: TT) rm As [] (fun a b => a = r ∧ b = []) 0 0) (hm : xMS cn y bytes maxL ret na) (hlk : Cond.methodLinkNest own ix y cn ∈ xNw) (d : decode cc pc = .ok (.invokestatic ix, 3))
    (hargs : ∀ σ, As.map (xV σ) = As) (hr : ∀ σ, r.map (xV σ) = r) (hst : st0 = As.reverse ++ st) (hna : As.length = na) (hroom : (st.map fun v => v.category).sum ≤ 8)
    (hR : rm.frames + 1 ≤ R.frames ∧ 8 + (maxL + 11) + rm.locals ≤ R.locals) (hrc : rm.cells = 0 ∧ rm.slots = 0) (hkn : k ≤ R.cells ∧ n ≤ R.slots) (hL : lv.length = nL)
    (kk : g k n θ (pc + 3) lv (r.toList ++ st)) : g k n θ pc lv st0 := by
  refine r_callSN C [] hM hm hlk d rfl List.nodup_nil (hargs _) hst hna hroom hR hrc hkn hL (fun r' θ'' h => by rw [h.2]) (fun r' θ'' h => ?_)
  obtain ⟨rfl, rfl⟩ := h
  rw [xAft_nil, hr]
  exact kk
/-- a virtual call on a part of the world -/
theorem r_callVD (C : Sem cc own nm nL R g) (is : List Nat) {b' ci : Nat} {As' As : List Value} {fs : List Value} {T : u_T} {N : Nat} {r r2 : Option Value} {θc' θ2 : List xE} (hM : MetA y (.code y bytes maxL ret :: TT) rm (.ref b' :: As') θc (fun a b => a = r ∧ b = θc') 0 0) (hm : xMV cn y bytes maxL ret na) (hlk : Cond.methodLink own ix y ∈ TT) (d : decode cc pc = .ok (.invokevirtual ix, 3))
    (hθ : is.map (fun i => θ[i]?) = θc.map (fun x => some (xEr (xS is θ.length) x))) (hnd : is.Nodup) (hargs : (Value.ref b' :: As').map (xV (xS is θ.length)) = .ref b :: As) (hrecv : θ[b]? = some (.inr (ci, fs))) (hcl : vwCl[ci]? = some (cn, T, N)) (hst : st0 = As.reverse ++ .ref b :: st) (hna : As.length = na) (hroom : (st.map fun v => v.category).sum ≤ 8)
    (hR : rm.frames + 1 ≤ R.frames ∧ 8 + (maxL + 11) + rm.locals ≤ R.locals) (hrc : rm.cells = 0 ∧ rm.slots = 0) (hkn : k ≤ R.cells ∧ n ≤ R.slots) (hL : lv.length = nL) (hfl : θc'.length = θc.length) (h2 : xSet θ is (θc'.map (xEr (xS is θ.length))) = θ2) (hr : r.map (xV (xS is θ.length)) = r2)
    (kk : g k n θ2 (pc + 3) lv (r2.toList ++ st)) : g k n θ pc lv st0 := by
  refine r_callV C is hM hm hlk d hθ hnd hargs hrecv hcl hst hna hroom hR hrc hkn hL (fun r' θ'' h => by rw [h.2]; exact hfl) (fun r' θ'' h => ?_)
  obtain ⟨rfl, rfl⟩ := h
  have h3 : xAft θ is θ'' = θ2 := by
    unfold xAft
    have h4 := (xIs hθ).1
    rw [List.take_of_length_le (by omega), List.drop_of_length_le (by omega), h2]
    simp
  rw [h3, hr]
  exact kk
theorem r_callSD (C : Sem cc own nm nL R g) (is : List Nat) {As' As : List Value} {r r2 : Option Value} {θc' θ2 : List xE} (hM : MetA y (.code y bytes maxL ret :: TT) rm As' θc (fun a b => a = r ∧ b = θc') 0 0) (hm : xMS cn y bytes maxL ret na) (hlk : Cond.methodLink own ix y ∈ TT) (d : decode cc pc = .ok (.invokestatic ix, 3))
    (hθ : is.map (fun i => θ[i]?) = θc.map (fun x => some (xEr (xS is θ.length) x))) (hnd : is.Nodup) (hargs : As'.map (xV (xS is θ.length)) = As) (hst : st0 = As.reverse ++ st) (hna : As.length = na) (hroom : (st.map fun v => v.category).sum ≤ 8)
    (hR : rm.frames + 1 ≤ R.frames ∧ 8 + (maxL + 11) + rm.locals ≤ R.locals) (hrc : rm.cells = 0 ∧ rm.slots = 0) (hkn : k ≤ R.cells ∧ n ≤ R.slots) (hL : lv.length = nL) (hfl : θc'.length = θc.length) (h2 : xSet θ is (θc'.map (xEr (xS is θ.length))) = θ2) (hr : r.map (xV (xS is θ.length)) = r2)
    (kk : g k n θ2 (pc + 3) lv (r2.toList ++ st)) : g k n θ pc lv st0 := by
  refine r_callS C is hM hm hlk d hθ hnd hargs hst hna hroom hR hrc hkn hL (fun r' θ'' h => by rw [h.2]; exact hfl) (fun r' θ'' h => ?_)
  obtain ⟨rfl, rfl⟩ := h
  have h3 : xAft θ is θ'' = θ2 := by
    unfold xAft
    have h4 := (xIs hθ).1
    rw [List.take_of_length_le (by omega), List.drop_of_length_le (by omega), h2]
    simp
  rw [h3, hr]
  exact kk
end FW
end
section
def xLa : List Value → List (Option Value)
  | [] => []
  | .long x :: vs => some (.long x) :: none :: xLa vs
  | .double x :: vs => some (.double x) :: none :: xLa vs
  | v :: vs => some v :: xLa vs
def xLv (av : List Value) (n : Nat) : List (Option Value) := xLa av ++ List.replicate (n - (xLa av).length) none
theorem xLa_args (ρ : Nat → Nat) : ∀ (av : List Value) (b i : Nat) (v : Value), (xLa av)[i]? = some (some v) → (b + i, xV ρ v) ∈ lv_args b (av.map (xV ρ))
  | [], b, i, v, h => by simp [xLa] at h
  | a :: av, b, i, v, h => by
    have ih := xLa_args ρ av
    cases a with
    | long x =>
      rcases i with _ | _ | i
      · simp only [xLa, List.getElem?_cons_zero, Option.some.injEq] at h
        subst h
        exact List.mem_cons_self
      · simp [xLa] at h
      · simp only [xLa, List.getElem?_cons_succ] at h
        have h2 := ih (b + 2) i v h
        refine List.mem_cons_of_mem _ ?_
        show (b + (i + 1 + 1), _) ∈ lv_args (b + 2) _
        rw [show b + (i + 1 + 1) = b + 2 + i by omega]
        exact h2
    | double x =>
      rcases i with _ | _ | i
      · simp only [xLa, List.getElem?_cons_zero, Option.some.injEq] at h
        subst h
        exact List.mem_cons_self
      · simp [xLa] at h
      · simp only [xLa, List.getElem?_cons_succ] at h
        have h2 := ih (b + 2) i v h
        refine List.mem_cons_of_mem _ ?_
        show (b + (i + 1 + 1), _) ∈ lv_args (b + 2) _
        rw [show b + (i + 1 + 1) = b + 2 + i by omega]
        exact h2
    | int x | float x | null | ref x | retAddr x =>
      rcases i with _ | i
      · simp only [xLa, List.getElem?_cons_zero, Option.some.injEq] at h
        subst h
        exact List.mem_cons_self
      · simp only [xLa, List.getElem?_cons_succ] at h
        have h2 := ih (b + 1) i v h
        refine List.mem_cons_of_mem _ ?_
        rw [show b + (i + 1) = b + 1 + i by omega]
        exact h2
theorem xL_entry {ρ : Nat → Nat} {av : List Value} {n : Nat} (h1 : (lg_sl (av.map (xV ρ))).length ≤ n) (h2 : (xLa av).length ≤ n) : xL ρ ((lg_sl (av.map (xV ρ)) ++ List.replicate (n - (lg_sl (av.map (xV ρ))).length) Slot.unset).toArray) (xLv av n) := by
  obtain ⟨a1, a2, a3⟩ := lv_entry (av.map (xV ρ)) h1
  refine ⟨by rw [a1]; simp only [xLv, List.length_append, List.length_replicate]; omega, a2, fun i v hv => ?_⟩
  unfold xLv at hv
  by_cases hi : i < (xLa av).length
  · rw [List.getElem?_append_left hi] at hv
    have h3 := xLa_args ρ av 0 i v hv
    rw [Nat.zero_add] at h3
    exact a3 _ h3
  · rw [List.getElem?_append_right (by omega), List.getElem?_replicate] at hv
    split at hv <;> cases hv
/-- how a method that answers an int, or a boolean, ends -/
def xEi (g : Nat → Nat → List xE → Nat → List (Option Value) → List Value → Prop) (cc : ByteArray) (rt : FieldType) (mc ms : Nat) (fin : Option Value → List xE → Prop) : Prop := ∀ (k n : Nat) (θ : List xE) (pc : Nat) (lv : List (Option Value)) (v : Int32), decode cc pc = .ok (.ireturn, 1) → k ≤ mc → n ≤ ms → narrow rt (.int v) = .int v → fin (some (.int v)) θ → g k n θ pc lv [.int v]
def xEv (g : Nat → Nat → List xE → Nat → List (Option Value) → List Value → Prop) (cc : ByteArray) (mc ms : Nat) (fin : Option Value → List xE → Prop) : Prop := ∀ (k n : Nat) (θ : List xE) (pc : Nat) (lv : List (Option Value)), decode cc pc = .ok (.return_, 1) → k ≤ mc → n ≤ ms → fin none θ → g k n θ pc lv []
theorem xSem {p : Program} {l : Launch} {e : Env} {R : Room} {s : State} {m : MethodId} {args : Array Value} {below : List Frame} {meth : Method} {c : Code} {D : va_G} {τ : Nat → ClassId} {ρ : Nat → Nat} {θ : List xE} {cc : ByteArray} {y : MethodName} {maxL : Nat} {ret : Option FieldType} {Q : State → Prop} {s₁ : State}
    (B : BodyLoose p l y (headSpec (.code y cc maxL ret :: TT) R) cc maxL ret e s m args below meth c s₁) (hml : c.maxLocals = maxL) (hv : xPre D τ ρ θ s.heap.size s) : Sem cc y.cls y.name maxL R (G p l e R s m args below meth c D (va_A (xW ρ τ θ) s.heap.size) τ ρ θ.length Q) := by
  obtain ⟨-, hP, hK, hD0, hT⟩ := hv
  exact ⟨p, l, e, s, m, args, below, meth, c, D, _, τ, ρ, θ.length, Q, ⟨B.exec, B.bytes, fun w hw => atoms_spec (ws := .code y cc maxL ret :: TT) B.pre w (List.mem_cons_of_mem _ hw), findClass_of_methodNamed B.named, (name_of_methodNamed B.named B.method).1, hml⟩, ⟨hK, fun q hq => Or.inr hq, hT⟩, rfl⟩
theorem MetA.of_i {y : MethodName} {cc : ByteArray} {maxL : Nat} {rt : FieldType} {rm : Room} {av : List Value} {θ : List xE} {fin : Option Value → List xE → Prop} {mc ms : Nat} (hy : plainName y.cls = true) (h1 : ∀ ρ, (lg_sl (av.map (xV ρ))).length ≤ maxL) (h2 : (xLa av).length ≤ maxL)
    (body : ∀ g, Sem cc y.cls y.name maxL rm g → xEi g cc rt mc ms fin → g 0 0 θ 0 (xLv av maxL) []) : MetA y (.code y cc maxL (some rt) :: TT) rm av θ fin mc ms := by
  intro l D τ ρ sz
  refine Met.ofW (cc := cc) (maxL := maxL) (ret := some rt) hy rfl ?_
  intro p e s m args below meth c s₁ B hml hv
  obtain ⟨rfl, hv⟩ := hv
  have hsz := hv.1
  subst hsz
  have C := xSem (Q := MQ below (xPost D τ ρ θ s.heap.size fin) ((av.map (xV ρ)).toArray) s mc ms (va_A (xW ρ τ θ) s.heap.size)) B hml hv
  have hx := B.exec
  have hb := B.bytes
  have hr := B.returns
  have hlocks := B.notSynchronized
  have K := body _ C (fun k n θ' pc lv v d k1 k2 hn hf => by
    intro ρ' H locs ls ⟨nw, e1, e2⟩ g3 g4 g5 g6
    subst e2
    refine W.widen k1 k2 ?_
    exact W.zret hx hb hr hn (fun t ht hW => ⟨⟨some (.int v), θ', nw, rfl, e1, hf, by rw [ht]; exact g3, g4⟩, g5.F ht⟩) g5.2.2 d hlocks)
  rw [lg_entry_eq]
  exact K ρ s.heap [] _ ⟨[], by simp, (xX_nil _ _).symm⟩ hv.2.1 hv.2.2.2.1.self va_S.rf (xL_entry (h1 ρ) h2)
theorem MetA.of_v {y : MethodName} {cc : ByteArray} {maxL : Nat} {rm : Room} {av : List Value} {θ : List xE} {fin : Option Value → List xE → Prop} {mc ms : Nat} (hy : plainName y.cls = true) (h1 : ∀ ρ, (lg_sl (av.map (xV ρ))).length ≤ maxL) (h2 : (xLa av).length ≤ maxL)
    (body : ∀ g, Sem cc y.cls y.name maxL rm g → xEv g cc mc ms fin → g 0 0 θ 0 (xLv av maxL) []) : MetA y (.code y cc maxL none :: TT) rm av θ fin mc ms := by
  intro l D τ ρ sz
  refine Met.ofW (cc := cc) (maxL := maxL) (ret := none) hy rfl ?_
  intro p e s m args below meth c s₁ B hml hv
  obtain ⟨rfl, hv⟩ := hv
  have hsz := hv.1
  subst hsz
  have C := xSem (Q := MQ below (xPost D τ ρ θ s.heap.size fin) ((av.map (xV ρ)).toArray) s mc ms (va_A (xW ρ τ θ) s.heap.size)) B hml hv
  have hx := B.exec
  have hb := B.bytes
  have hr := B.returns
  have hlocks := B.notSynchronized
  have K := body _ C (fun k n θ' pc lv d k1 k2 hf => by
    intro ρ' H locs ls ⟨nw, e1, e2⟩ g3 g4 g5 g6
    subst e2
    refine W.widen k1 k2 ?_
    exact W.vret hx hb hr (fun t ht hW => ⟨⟨none, θ', nw, rfl, e1, hf, by rw [ht]; exact g3, g4⟩, g5.F ht⟩) g5.2.2 d hlocks)
  rw [lg_entry_eq]
  exact K ρ s.heap [] _ ⟨[], by simp, (xX_nil _ _).symm⟩ hv.2.1 hv.2.2.2.1.self va_S.rf (xL_entry (h1 ρ) h2)
section FW
variable {cc : ByteArray} {own nm : String} {nL : Nat} {R : Room} {g : Nat → Nat → List xE → Nat → List (Option Value) → List Value → Prop} {k n : Nat} {θ : List xE} {pc : Nat} {lv : List (Option Value)} {st : List Value}
/-- a read of one of the three tables, by a local or by 0 -/
def xTw (own : String) (ix : Nat) (nmf : String) (f : Nat → Int32) : Prop := Cond.fieldLink own ix "HammockReach" nmf "[I" ∈ TT ∧ ((nmf = "ABOVE" ∧ f = xtab1) ∨ (nmf = "SIZE_BODIES" ∧ f = xtab2) ∨ (nmf = "MARK_BODIES" ∧ f = xtab3))
theorem xTw.tab {own nmf : String} {ix : Nat} {f : Nat → Int32} {A : Nat → Prop} {U : State} (h : xTw own ix nmf f) (hT : xTab A U) : xTab1 nmf f A U := by
  rcases h.2 with ⟨rfl, rfl⟩ | ⟨rfl, rfl⟩ | ⟨rfl, rfl⟩
  · exact hT.1
  · exact hT.2.1
  · exact hT.2.2
theorem r_tabL (C : Sem cc own nm nL R g) {ix i : Nat} {jj : Fin 4} {nmf : String} {f : Nat → Int32} {x : Int32} (j : Nat) (ht : xTw own ix nmf f) (d1 : decode cc pc = .ok (.getstatic ix, 3)) (d2 : decode cc (pc + 3) = .ok (.iload_n jj, 1)) (d3 : decode cc (pc + 4) = .ok (.iaload, 1)) (hi : (jj : Nat) = i) (hl : lv[i]? = some (some (.int x))) (hx0 : x = nI j) (hj : j < 6) (kk : g k n θ (pc + 5) lv (.int (f j) :: st)) : g k n θ pc lv st := by
  obtain ⟨p, l, e, s, m, args, below, meth, c, D, A, τ, ρ0, n0, Q, ⟨hx, hb, hts, hown, hnm, hml⟩, ⟨hK, hA, hT⟩, rfl⟩ := C
  intro ρ H locs ls h1 h3 h4 h5 h6
  subst hx0
  obtain ⟨t, hZ, hT1⟩ := ht.tab hT.1
  have e1 : (nI j).toNatClampNeg = j := nI_clamp (by omega)
  refine va_gets hx hb hZ h5 hown (hts _ ht.1) (fun _ h => h) d1 ?_
  refine lv_iload_n hx hb d2 hi (h6.2.2 i _ hl) ?_
  refine va_ti hx hb hT1 h5 (vp_in_nI hj (by decide)) rfl d3 ?_
  rw [e1]
  exact kk ρ H locs ls h1 h3 h4 h5 h6
theorem r_tab0 (C : Sem cc own nm nL R g) {ix : Nat} {nmf : String} {f : Nat → Int32} (ht : xTw own ix nmf f) (d1 : decode cc pc = .ok (.getstatic ix, 3)) (d2 : decode cc (pc + 3) = .ok (.iconst 0, 1)) (d3 : decode cc (pc + 4) = .ok (.iaload, 1)) (kk : g k n θ (pc + 5) lv (.int (f 0) :: st)) : g k n θ pc lv st := by
  obtain ⟨p, l, e, s, m, args, below, meth, c, D, A, τ, ρ0, n0, Q, ⟨hx, hb, hts, hown, hnm, hml⟩, ⟨hK, hA, hT⟩, rfl⟩ := C
  intro ρ H locs ls h1 h3 h4 h5 h6
  obtain ⟨t, hZ, hT1⟩ := ht.tab hT.1
  refine va_gets hx hb hZ h5 hown (hts _ ht.1) (fun _ h => h) d1 ?_
  refine lv_iconst (v := nI 0) hx hb d2 (by decide) ?_
  refine va_ti hx hb hT1 h5 (vp_in_nI (by decide) (by decide)) rfl d3 ?_
  exact kk ρ H locs ls h1 h3 h4 h5 h6
theorem r_abs (C : Sem cc own nm nL R g) {ix : Nat} {x : Int32} (hw : Cond.methodLink own ix Lib.Math.abs.name ∈ TT ∧ Cond.static Lib.Math.abs.name ∈ TT ∧ Cond.initialized "java/lang/Math" ∈ TT ∧ Cond.code Lib.Math.abs.name Lib.Math.abs.code 1 (some .int) ∈ TT) (d : decode cc pc = .ok (.invokestatic ix, 3)) (hL : lv.length = nL) (hroom : 1 ≤ R.frames ∧ (st.map fun v => v.category).sum + 13 ≤ R.locals) (hkn : k ≤ R.cells ∧ n ≤ R.slots) (kk : g k n θ (pc + 3) lv (.int (if 0 ≤ x then x else 0 - x) :: st)) : g k n θ pc lv (.int x :: st) := by
  obtain ⟨p, l, e, s, m, args, below, meth, c, D, A, τ, ρ0, n0, Q, ⟨hx, hb, hts, hown, hnm, hml⟩, ⟨hK, hA, hT⟩, rfl⟩ := C
  intro ρ H locs ls h1 h3 h4 h5 h6
  exact va_mabs hx hb (hml.trans (h6.1.trans hL).symm) hown (hts _ hw.1) (hts _ hw.2.1) (hts _ hw.2.2.1) (hts _ hw.2.2.2) hroom.1 (by rw [xV_cats]; exact hroom.2) hkn.1 hkn.2 d (kk ρ H locs ls h1 h3 h4 h5 h6)
theorem r_copy (C : Sem cc own nm nL R g) {ix a0 a1 N0 N1 : Nat} {f0 f1 : Nat → Int32} {sp dp z : Int32} {θ' : List xE} (hw : Cond.methodLink own ix arraycopyName ∈ TT ∧ Cond.native arraycopyName ∈ TT ∧ Cond.static arraycopyName ∈ TT ∧ Cond.initialized "java/lang/System" ∈ TT) (i j q : Nat) (d : decode cc pc = .ok (.invokestatic ix, 3)) (hL : lv.length = nL) (hroom : 1 ≤ R.frames ∧ (st.map fun v => v.category).sum + (nativeFrameWords "java/lang/System" "arraycopy" 5 + 11) ≤ R.locals)
    (hθ0 : θ[a0]? = some (.inl (0, N0, .inl f0))) (hθ1 : θ[a1]? = some (.inl (0, N1, .inl f1))) (hi : sp = nI i) (hj : dp = nI j) (hq : z = nI q) (b1 : i + q ≤ N0) (b2 : j + q ≤ N1) (hs : θ.set a1 (.inl (0, N1, .inl (va_cpy f0 f1 i j q))) = θ') (kk : g k n θ' (pc + 3) lv st) (hN : N0 < 2 ^ 31 ∧ N1 < 2 ^ 31 := by decide) : g k n θ pc lv (.int z :: .int dp :: .ref a1 :: .int sp :: .ref a0 :: st) := by
  obtain ⟨p, l, e, s, m, args, below, meth, c, D, A, τ, ρ0, n0, Q, ⟨hx, hb, hts, hown, hnm, hml⟩, ⟨hK, hA, hT⟩, rfl⟩ := C
  intro ρ H locs ls h1 h3 h4 h5 h6
  subst hi; subst hj; subst hq; subst hs
  have c1 : (nI i).toNatClampNeg = i := nI_clamp (by omega)
  have c2 : (nI j).toNatClampNeg = j := nI_clamp (by omega)
  have c3 : (nI q).toNatClampNeg = q := nI_clamp (by omega)
  refine va_copyi (D := D) (cl := vwCl) (tys := xT τ) (ty := .int) hx hb (hml.trans (h6.1.trans hL).symm) hown (hts _ hw.1) (hts _ hw.2.1) (hts _ hw.2.2.1) (hts _ hw.2.2.2) hK h3 h4 h5 a0 a1 0 0 (c0 := τ 0) (c1 := τ 0) (n0 := N0) (n1 := N1) (f := f0) (g := f1) (xW_at hθ0) (xW_at hθ1) rfl rfl rfl (nI_pos (by omega)) (nI_pos (by omega)) (nI_pos (by omega)) (by rw [c1, c3]; exact b1) (by rw [c2, c3]; exact b2) (fun _ _ => rfl) hroom.1 (by rw [xV_cats]; exact hroom.2) d (fun H1 locs1 w1 w2 w3 => ?_)
  rw [c1, c2, c3] at w1 w2
  exact kk ρ H1 locs1 ls (by rw [List.length_set]; exact h1) (xW_set (ρ := ρ) (τ := τ) (θ := θ) (i := a1) ▸ w1) (xW_set (ρ := ρ) (τ := τ) (θ := θ) (i := a1) ▸ w2) w3 h6
end FW
end
section
theorem tw_0 : (Jvm.Cond.initialized "HammockReachLaw") ∈ TT := TT_mem 0 (by decide +kernel) rfl
theorem tw_1 : (Jvm.Cond.initialized "HammockReach") ∈ TT := TT_mem 1 (by decide +kernel) rfl
theorem tw_2 : (Jvm.Cond.initialized "HammockReach$Tape") ∈ TT := TT_mem 2 (by decide +kernel) rfl
theorem tw_3 : (Jvm.Cond.initialized "HammockReach$Forest") ∈ TT := TT_mem 3 (by decide +kernel) rfl
theorem tw_4 : (Jvm.Cond.initialized "HammockReach$Acts") ∈ TT := TT_mem 4 (by decide +kernel) rfl
theorem tw_5 : (Jvm.Cond.initialized "HammockReach$Outlook") ∈ TT := TT_mem 5 (by decide +kernel) rfl
theorem tw_6 : (Jvm.Cond.initialized "HammockReach$Row") ∈ TT := TT_mem 6 (by decide +kernel) rfl
theorem tw_7 : (Jvm.Cond.initialized "HammockReachModel") ∈ TT := TT_mem 7 (by decide +kernel) rfl
theorem tw_8 : (Jvm.Cond.initialized "java/lang/System") ∈ TT := TT_mem 8 (by decide +kernel) rfl
theorem tw_9 : (Jvm.Cond.initialized "java/lang/Math") ∈ TT := TT_mem 9 (by decide +kernel) rfl
theorem tw_10 : (Jvm.Cond.initialized "java/lang/Integer") ∈ TT := TT_mem 10 (by decide +kernel) rfl
theorem tw_11 : (Jvm.Cond.classLink "HammockReachLaw" (7 : Nat) "HammockReach") ∈ TT := TT_mem 11 (by decide +kernel) rfl
theorem tw_12 : (Jvm.Cond.instantiable "HammockReach" (10 : Nat)) ∈ TT := TT_mem 12 (by decide +kernel) rfl
theorem tw_13 : (Jvm.Cond.methodLink "HammockReachLaw" (9 : Nat) ({ cls := "HammockReach", name := "<init>", desc := "()V" } : Jvm.MethodName)) ∈ TT := TT_mem 13 (by decide +kernel) rfl
theorem tw_14 : (Jvm.Cond.instanceMethod ({ cls := "HammockReach", name := "<init>", desc := "()V" } : Jvm.MethodName)) ∈ TT := TT_mem 14 (by decide +kernel) rfl
theorem tw_15 : (Jvm.Cond.code ({ cls := "HammockReach", name := "<init>", desc := "()V" } : Jvm.MethodName) prog_1_method_1_code (2 : Nat) (Option.none : Option Jvm.ClassFile.FieldType)) ∈ TT := TT_mem 15 (by decide +kernel) rfl
theorem tw_16 : (Jvm.Cond.methodLink "HammockReach" (1 : Nat) ({ cls := "java/lang/Object", name := "<init>", desc := "()V" } : Jvm.MethodName)) ∈ TT := TT_mem 16 (by decide +kernel) rfl
theorem tw_17 : (Jvm.Cond.instanceMethod ({ cls := "java/lang/Object", name := "<init>", desc := "()V" } : Jvm.MethodName)) ∈ TT := TT_mem 17 (by decide +kernel) rfl
theorem tw_18 : (Jvm.Cond.code ({ cls := "java/lang/Object", name := "<init>", desc := "()V" } : Jvm.MethodName) object_method_1_code (1 : Nat) (Option.none : Option Jvm.ClassFile.FieldType)) ∈ TT := TT_mem 18 (by decide +kernel) rfl
theorem tw_19 : (Jvm.Cond.classLink "HammockReach" (9 : Nat) "HammockReach$Row") ∈ TT := TT_mem 19 (by decide +kernel) rfl
theorem tw_21 : (Jvm.Cond.classLink "HammockReach" (15 : Nat) "HammockReach$Tape") ∈ TT := TT_mem 21 (by decide +kernel) rfl
theorem tw_22 : (Jvm.Cond.instantiable "HammockReach$Tape" (4 : Nat)) ∈ TT := TT_mem 22 (by decide +kernel) rfl
theorem tw_24 : (Jvm.Cond.instanceMethod ({ cls := "HammockReach$Tape", name := "<init>", desc := "()V" } : Jvm.MethodName)) ∈ TT := TT_mem 24 (by decide +kernel) rfl
theorem tw_25 : (Jvm.Cond.code ({ cls := "HammockReach$Tape", name := "<init>", desc := "()V" } : Jvm.MethodName) prog_6_method_1_code (1 : Nat) (Option.none : Option Jvm.ClassFile.FieldType)) ∈ TT := TT_mem 25 (by decide +kernel) rfl
theorem tw_26 : (Jvm.Cond.methodLink "HammockReach$Tape" (3 : Nat) ({ cls := "java/lang/Object", name := "<init>", desc := "()V" } : Jvm.MethodName)) ∈ TT := TT_mem 26 (by decide +kernel) rfl
theorem tw_27 : (Jvm.Cond.fieldLink "HammockReach$Tape" (9 : Nat) "HammockReach$Tape" "bytes" "[I") ∈ TT := TT_mem 27 (by decide +kernel) rfl
theorem tw_28 : (Jvm.Cond.fieldLink "HammockReach" (101 : Nat) "HammockReach$Tape" "bytes" "[I") ∈ TT := TT_mem 28 (by decide +kernel) rfl
theorem tw_29 : (Jvm.Cond.fieldLink "HammockReach$Tape" (28 : Nat) "HammockReach$Tape" "length" "I") ∈ TT := TT_mem 29 (by decide +kernel) rfl
theorem tw_30 : (Jvm.Cond.fieldLink "HammockReach" (97 : Nat) "HammockReach$Tape" "length" "I") ∈ TT := TT_mem 30 (by decide +kernel) rfl
theorem tw_31 : (Jvm.Cond.fieldLink "HammockReach$Tape" (15 : Nat) "HammockReach$Tape" "at" "I") ∈ TT := TT_mem 31 (by decide +kernel) rfl
theorem tw_32 : (Jvm.Cond.fieldLink "HammockReach" (109 : Nat) "HammockReach$Tape" "at" "I") ∈ TT := TT_mem 32 (by decide +kernel) rfl
theorem tw_33 : (Jvm.Cond.fieldLink "HammockReach" (120 : Nat) "HammockReach$Tape" "fault" "I") ∈ TT := TT_mem 33 (by decide +kernel) rfl
theorem tw_34 : (Jvm.Cond.fieldLink "HammockReach$Tape" (86 : Nat) "HammockReach$Tape" "fault" "I") ∈ TT := TT_mem 34 (by decide +kernel) rfl
theorem tw_44 : (Jvm.Cond.arrayClass Jvm.ClassFile.FieldType.int) ∈ TT := TT_mem 44 (by decide +kernel) rfl
theorem tw_45 : (Jvm.Cond.classLink "HammockReach" (22 : Nat) "HammockReach$Forest") ∈ TT := TT_mem 45 (by decide +kernel) rfl
theorem tw_46 : (Jvm.Cond.instantiable "HammockReach$Forest" (11 : Nat)) ∈ TT := TT_mem 46 (by decide +kernel) rfl
theorem tw_48 : (Jvm.Cond.instanceMethod ({ cls := "HammockReach$Forest", name := "<init>", desc := "()V" } : Jvm.MethodName)) ∈ TT := TT_mem 48 (by decide +kernel) rfl
theorem tw_49 : (Jvm.Cond.code ({ cls := "HammockReach$Forest", name := "<init>", desc := "()V" } : Jvm.MethodName) prog_3_method_1_code (1 : Nat) (Option.none : Option Jvm.ClassFile.FieldType)) ∈ TT := TT_mem 49 (by decide +kernel) rfl
theorem tw_50 : (Jvm.Cond.methodLink "HammockReach$Forest" (3 : Nat) ({ cls := "java/lang/Object", name := "<init>", desc := "()V" } : Jvm.MethodName)) ∈ TT := TT_mem 50 (by decide +kernel) rfl
theorem tw_51 : (Jvm.Cond.fieldLink "HammockReach$Forest" (9 : Nat) "HammockReach$Forest" "sort" "[I") ∈ TT := TT_mem 51 (by decide +kernel) rfl
theorem tw_52 : (Jvm.Cond.fieldLink "HammockReach$Tape" (61 : Nat) "HammockReach$Forest" "sort" "[I") ∈ TT := TT_mem 52 (by decide +kernel) rfl
theorem tw_53 : (Jvm.Cond.fieldLink "HammockReach" (226 : Nat) "HammockReach$Forest" "sort" "[I") ∈ TT := TT_mem 53 (by decide +kernel) rfl
theorem tw_54 : (Jvm.Cond.fieldLink "HammockReach$Forest" (15 : Nat) "HammockReach$Forest" "low" "[I") ∈ TT := TT_mem 54 (by decide +kernel) rfl
theorem tw_55 : (Jvm.Cond.fieldLink "HammockReach$Acts" (31 : Nat) "HammockReach$Forest" "low" "[I") ∈ TT := TT_mem 55 (by decide +kernel) rfl
theorem tw_56 : (Jvm.Cond.fieldLink "HammockReach$Tape" (71 : Nat) "HammockReach$Forest" "low" "[I") ∈ TT := TT_mem 56 (by decide +kernel) rfl
theorem tw_57 : (Jvm.Cond.fieldLink "HammockReach" (141 : Nat) "HammockReach$Forest" "low" "[I") ∈ TT := TT_mem 57 (by decide +kernel) rfl
theorem tw_58 : (Jvm.Cond.fieldLink "HammockReach$Forest" (18 : Nat) "HammockReach$Forest" "top" "[I") ∈ TT := TT_mem 58 (by decide +kernel) rfl
theorem tw_59 : (Jvm.Cond.fieldLink "HammockReach$Acts" (36 : Nat) "HammockReach$Forest" "top" "[I") ∈ TT := TT_mem 59 (by decide +kernel) rfl
theorem tw_60 : (Jvm.Cond.fieldLink "HammockReach$Tape" (74 : Nat) "HammockReach$Forest" "top" "[I") ∈ TT := TT_mem 60 (by decide +kernel) rfl
theorem tw_61 : (Jvm.Cond.fieldLink "HammockReach" (144 : Nat) "HammockReach$Forest" "top" "[I") ∈ TT := TT_mem 61 (by decide +kernel) rfl
theorem tw_62 : (Jvm.Cond.fieldLink "HammockReach$Forest" (21 : Nat) "HammockReach$Forest" "weight" "[I") ∈ TT := TT_mem 62 (by decide +kernel) rfl
theorem tw_63 : (Jvm.Cond.fieldLink "HammockReach$Acts" (39 : Nat) "HammockReach$Forest" "weight" "[I") ∈ TT := TT_mem 63 (by decide +kernel) rfl
theorem tw_64 : (Jvm.Cond.fieldLink "HammockReach$Tape" (77 : Nat) "HammockReach$Forest" "weight" "[I") ∈ TT := TT_mem 64 (by decide +kernel) rfl
theorem tw_65 : (Jvm.Cond.fieldLink "HammockReach" (151 : Nat) "HammockReach$Forest" "weight" "[I") ∈ TT := TT_mem 65 (by decide +kernel) rfl
theorem tw_66 : (Jvm.Cond.fieldLink "HammockReach$Forest" (24 : Nat) "HammockReach$Forest" "swing" "[I") ∈ TT := TT_mem 66 (by decide +kernel) rfl
theorem tw_67 : (Jvm.Cond.fieldLink "HammockReach$Tape" (80 : Nat) "HammockReach$Forest" "swing" "[I") ∈ TT := TT_mem 67 (by decide +kernel) rfl
theorem tw_68 : (Jvm.Cond.fieldLink "HammockReach" (169 : Nat) "HammockReach$Forest" "swing" "[I") ∈ TT := TT_mem 68 (by decide +kernel) rfl
theorem tw_69 : (Jvm.Cond.fieldLink "HammockReach$Forest" (27 : Nat) "HammockReach$Forest" "stands" "Z") ∈ TT := TT_mem 69 (by decide +kernel) rfl
theorem tw_70 : (Jvm.Cond.fieldLink "HammockReach" (123 : Nat) "HammockReach$Forest" "stands" "Z") ∈ TT := TT_mem 70 (by decide +kernel) rfl
theorem tw_71 : (Jvm.Cond.fieldLink "HammockReach$Tape" (42 : Nat) "HammockReach$Forest" "high" "I") ∈ TT := TT_mem 71 (by decide +kernel) rfl
theorem tw_72 : (Jvm.Cond.fieldLink "HammockReach$Forest" (47 : Nat) "HammockReach$Forest" "high" "I") ∈ TT := TT_mem 72 (by decide +kernel) rfl
theorem tw_73 : (Jvm.Cond.fieldLink "HammockReach" (242 : Nat) "HammockReach$Forest" "high" "I") ∈ TT := TT_mem 73 (by decide +kernel) rfl
theorem tw_74 : (Jvm.Cond.fieldLink "HammockReach$Tape" (45 : Nat) "HammockReach$Forest" "arm" "I") ∈ TT := TT_mem 74 (by decide +kernel) rfl
theorem tw_75 : (Jvm.Cond.fieldLink "HammockReach$Forest" (50 : Nat) "HammockReach$Forest" "arm" "I") ∈ TT := TT_mem 75 (by decide +kernel) rfl
theorem tw_76 : (Jvm.Cond.fieldLink "HammockReach" (245 : Nat) "HammockReach$Forest" "arm" "I") ∈ TT := TT_mem 76 (by decide +kernel) rfl
theorem tw_77 : (Jvm.Cond.fieldLink "HammockReach$Forest" (31 : Nat) "HammockReach$Forest" "minute" "I") ∈ TT := TT_mem 77 (by decide +kernel) rfl
theorem tw_78 : (Jvm.Cond.fieldLink "HammockReach$Outlook" (28 : Nat) "HammockReach$Forest" "minute" "I") ∈ TT := TT_mem 78 (by decide +kernel) rfl
theorem tw_79 : (Jvm.Cond.fieldLink "HammockReach$Acts" (45 : Nat) "HammockReach$Forest" "minute" "I") ∈ TT := TT_mem 79 (by decide +kernel) rfl
theorem tw_80 : (Jvm.Cond.fieldLink "HammockReach" (128 : Nat) "HammockReach$Forest" "minute" "I") ∈ TT := TT_mem 80 (by decide +kernel) rfl
theorem tw_81 : (Jvm.Cond.fieldLink "HammockReach$Outlook" (21 : Nat) "HammockReach$Forest" "size" "I") ∈ TT := TT_mem 81 (by decide +kernel) rfl
theorem tw_82 : (Jvm.Cond.fieldLink "HammockReach$Forest" (35 : Nat) "HammockReach$Forest" "size" "I") ∈ TT := TT_mem 82 (by decide +kernel) rfl
theorem tw_83 : (Jvm.Cond.fieldLink "HammockReach$Tape" (48 : Nat) "HammockReach$Forest" "size" "I") ∈ TT := TT_mem 83 (by decide +kernel) rfl
theorem tw_84 : (Jvm.Cond.fieldLink "HammockReach" (119 : Nat) "HammockReach$Forest" "size" "I") ∈ TT := TT_mem 84 (by decide +kernel) rfl
theorem tw_85 : (Jvm.Cond.fieldLink "HammockReach$Forest" (38 : Nat) "HammockReach$Forest" "cut" "I") ∈ TT := TT_mem 85 (by decide +kernel) rfl
theorem tw_86 : (Jvm.Cond.fieldLink "HammockReach$Acts" (42 : Nat) "HammockReach$Forest" "cut" "I") ∈ TT := TT_mem 86 (by decide +kernel) rfl
theorem tw_87 : (Jvm.Cond.fieldLink "HammockReach" (160 : Nat) "HammockReach$Forest" "cut" "I") ∈ TT := TT_mem 87 (by decide +kernel) rfl
theorem tw_112 : (Jvm.Cond.classLink "HammockReach" (36 : Nat) "HammockReach$Acts") ∈ TT := TT_mem 112 (by decide +kernel) rfl
theorem tw_113 : (Jvm.Cond.instantiable "HammockReach$Acts" (6 : Nat)) ∈ TT := TT_mem 113 (by decide +kernel) rfl
theorem tw_115 : (Jvm.Cond.instanceMethod ({ cls := "HammockReach$Acts", name := "<init>", desc := "()V" } : Jvm.MethodName)) ∈ TT := TT_mem 115 (by decide +kernel) rfl
theorem tw_116 : (Jvm.Cond.code ({ cls := "HammockReach$Acts", name := "<init>", desc := "()V" } : Jvm.MethodName) prog_2_method_1_code (1 : Nat) (Option.none : Option Jvm.ClassFile.FieldType)) ∈ TT := TT_mem 116 (by decide +kernel) rfl
theorem tw_117 : (Jvm.Cond.methodLink "HammockReach$Acts" (3 : Nat) ({ cls := "java/lang/Object", name := "<init>", desc := "()V" } : Jvm.MethodName)) ∈ TT := TT_mem 117 (by decide +kernel) rfl
theorem tw_118 : (Jvm.Cond.fieldLink "HammockReach$Acts" (9 : Nat) "HammockReach$Acts" "what" "[I") ∈ TT := TT_mem 118 (by decide +kernel) rfl
theorem tw_119 : (Jvm.Cond.fieldLink "HammockReach$Acts" (15 : Nat) "HammockReach$Acts" "whose" "[I") ∈ TT := TT_mem 119 (by decide +kernel) rfl
theorem tw_120 : (Jvm.Cond.fieldLink "HammockReach$Acts" (18 : Nat) "HammockReach$Acts" "before" "[I") ∈ TT := TT_mem 120 (by decide +kernel) rfl
theorem tw_121 : (Jvm.Cond.fieldLink "HammockReach$Acts" (21 : Nat) "HammockReach$Acts" "beforeToo" "[I") ∈ TT := TT_mem 121 (by decide +kernel) rfl
theorem tw_122 : (Jvm.Cond.fieldLink "HammockReach$Acts" (28 : Nat) "HammockReach$Acts" "oldest" "I") ∈ TT := TT_mem 122 (by decide +kernel) rfl
theorem tw_123 : (Jvm.Cond.fieldLink "HammockReach$Acts" (24 : Nat) "HammockReach$Acts" "kept" "I") ∈ TT := TT_mem 123 (by decide +kernel) rfl
theorem tw_124 : (Jvm.Cond.fieldLink "HammockReach" (163 : Nat) "HammockReach$Acts" "kept" "I") ∈ TT := TT_mem 124 (by decide +kernel) rfl
theorem tw_138 : (Jvm.Cond.classLink "HammockReach" (43 : Nat) "HammockReach$Outlook") ∈ TT := TT_mem 138 (by decide +kernel) rfl
theorem tw_139 : (Jvm.Cond.instantiable "HammockReach$Outlook" (4 : Nat)) ∈ TT := TT_mem 139 (by decide +kernel) rfl
theorem tw_141 : (Jvm.Cond.instanceMethod ({ cls := "HammockReach$Outlook", name := "<init>", desc := "()V" } : Jvm.MethodName)) ∈ TT := TT_mem 141 (by decide +kernel) rfl
theorem tw_142 : (Jvm.Cond.code ({ cls := "HammockReach$Outlook", name := "<init>", desc := "()V" } : Jvm.MethodName) prog_4_method_1_code (1 : Nat) (Option.none : Option Jvm.ClassFile.FieldType)) ∈ TT := TT_mem 142 (by decide +kernel) rfl
theorem tw_143 : (Jvm.Cond.methodLink "HammockReach$Outlook" (3 : Nat) ({ cls := "java/lang/Object", name := "<init>", desc := "()V" } : Jvm.MethodName)) ∈ TT := TT_mem 143 (by decide +kernel) rfl
theorem tw_144 : (Jvm.Cond.fieldLink "HammockReach$Outlook" (9 : Nat) "HammockReach$Outlook" "spots" "[I") ∈ TT := TT_mem 144 (by decide +kernel) rfl
theorem tw_145 : (Jvm.Cond.fieldLink "HammockReach$Outlook" (15 : Nat) "HammockReach$Outlook" "near" "[I") ∈ TT := TT_mem 145 (by decide +kernel) rfl
theorem tw_146 : (Jvm.Cond.fieldLink "HammockReach$Outlook" (18 : Nat) "HammockReach$Outlook" "within" "[I") ∈ TT := TT_mem 146 (by decide +kernel) rfl
theorem tw_147 : (Jvm.Cond.fieldLink "HammockReach$Outlook" (27 : Nat) "HammockReach$Outlook" "size" "I") ∈ TT := TT_mem 147 (by decide +kernel) rfl
theorem tw_157 : (Jvm.Cond.instantiable "HammockReach$Row" (3 : Nat)) ∈ TT := TT_mem 157 (by decide +kernel) rfl
theorem tw_159 : (Jvm.Cond.instanceMethod ({ cls := "HammockReach$Row", name := "<init>", desc := "()V" } : Jvm.MethodName)) ∈ TT := TT_mem 159 (by decide +kernel) rfl
theorem tw_160 : (Jvm.Cond.code ({ cls := "HammockReach$Row", name := "<init>", desc := "()V" } : Jvm.MethodName) prog_5_method_1_code (1 : Nat) (Option.none : Option Jvm.ClassFile.FieldType)) ∈ TT := TT_mem 160 (by decide +kernel) rfl
theorem tw_161 : (Jvm.Cond.methodLink "HammockReach$Row" (3 : Nat) ({ cls := "java/lang/Object", name := "<init>", desc := "()V" } : Jvm.MethodName)) ∈ TT := TT_mem 161 (by decide +kernel) rfl
theorem tw_162 : (Jvm.Cond.fieldLink "HammockReach$Row" (9 : Nat) "HammockReach$Row" "items" "[I") ∈ TT := TT_mem 162 (by decide +kernel) rfl
theorem tw_163 : (Jvm.Cond.fieldLink "HammockReach" (82 : Nat) "HammockReach$Row" "items" "[I") ∈ TT := TT_mem 163 (by decide +kernel) rfl
theorem tw_164 : (Jvm.Cond.fieldLink "HammockReach$Row" (15 : Nat) "HammockReach$Row" "lane" "I") ∈ TT := TT_mem 164 (by decide +kernel) rfl
theorem tw_165 : (Jvm.Cond.fieldLink "HammockReach" (76 : Nat) "HammockReach$Row" "lane" "I") ∈ TT := TT_mem 165 (by decide +kernel) rfl
theorem tw_166 : (Jvm.Cond.fieldLink "HammockReach$Row" (19 : Nat) "HammockReach$Row" "size" "I") ∈ TT := TT_mem 166 (by decide +kernel) rfl
theorem tw_167 : (Jvm.Cond.fieldLink "HammockReach" (79 : Nat) "HammockReach$Row" "size" "I") ∈ TT := TT_mem 167 (by decide +kernel) rfl
theorem tw_175 : (Jvm.Cond.fieldLink "HammockReach" (11 : Nat) "HammockReach" "rows" "[LHammockReach$Row;") ∈ TT := TT_mem 175 (by decide +kernel) rfl
theorem tw_176 : (Jvm.Cond.fieldLink "HammockReach" (18 : Nat) "HammockReach" "tape" "LHammockReach$Tape;") ∈ TT := TT_mem 176 (by decide +kernel) rfl
theorem tw_177 : (Jvm.Cond.fieldLink "HammockReach" (25 : Nat) "HammockReach" "now" "LHammockReach$Forest;") ∈ TT := TT_mem 177 (by decide +kernel) rfl
theorem tw_178 : (Jvm.Cond.fieldLink "HammockReach" (29 : Nat) "HammockReach" "trial" "LHammockReach$Forest;") ∈ TT := TT_mem 178 (by decide +kernel) rfl
theorem tw_179 : (Jvm.Cond.fieldLink "HammockReach" (32 : Nat) "HammockReach" "images" "[LHammockReach$Forest;") ∈ TT := TT_mem 179 (by decide +kernel) rfl
theorem tw_180 : (Jvm.Cond.fieldLink "HammockReach" (39 : Nat) "HammockReach" "acts" "LHammockReach$Acts;") ∈ TT := TT_mem 180 (by decide +kernel) rfl
theorem tw_181 : (Jvm.Cond.fieldLink "HammockReach" (46 : Nat) "HammockReach" "outlook" "LHammockReach$Outlook;") ∈ TT := TT_mem 181 (by decide +kernel) rfl
theorem tw_182 : (Jvm.Cond.fieldLink "HammockReach" (50 : Nat) "HammockReach" "traced" "[I") ∈ TT := TT_mem 182 (by decide +kernel) rfl
theorem tw_183 : (Jvm.Cond.fieldLink "HammockReach" (232 : Nat) "HammockReach" "tracedCount" "I") ∈ TT := TT_mem 183 (by decide +kernel) rfl
theorem tw_184 : (Jvm.Cond.fieldLink "HammockReach" (68 : Nat) "HammockReach" "finding" "I") ∈ TT := TT_mem 184 (by decide +kernel) rfl
theorem tw_206 : (Jvm.Cond.methodLink "HammockReachLaw" (13 : Nat) ({ cls := "HammockReach", name := "row", desc := "(III)I" } : Jvm.MethodName)) ∈ TT := TT_mem 206 (by decide +kernel) rfl
theorem tw_207 : (Jvm.Cond.instanceMethod ({ cls := "HammockReach", name := "row", desc := "(III)I" } : Jvm.MethodName)) ∈ TT := TT_mem 207 (by decide +kernel) rfl
theorem tw_208 : (Jvm.Cond.selects "HammockReach" ({ cls := "HammockReach", name := "row", desc := "(III)I" } : Jvm.MethodName) ({ cls := "HammockReach", name := "row", desc := "(III)I" } : Jvm.MethodName)) ∈ TT := TT_mem 208 (by decide +kernel) rfl
theorem tw_209 : (Jvm.Cond.code ({ cls := "HammockReach", name := "row", desc := "(III)I" } : Jvm.MethodName) prog_1_method_2_code (4 : Nat) (Option.some Jvm.ClassFile.FieldType.int)) ∈ TT := TT_mem 209 (by decide +kernel) rfl
theorem tw_210 : (Jvm.Cond.methodLink "HammockReach" (55 : Nat) ({ cls := "HammockReach", name := "isRow", desc := "(I)Z" } : Jvm.MethodName)) ∈ TT := TT_mem 210 (by decide +kernel) rfl
theorem tw_211 : (Jvm.Cond.static ({ cls := "HammockReach", name := "isRow", desc := "(I)Z" } : Jvm.MethodName)) ∈ TT := TT_mem 211 (by decide +kernel) rfl
theorem tw_212 : (Jvm.Cond.code ({ cls := "HammockReach", name := "isRow", desc := "(I)Z" } : Jvm.MethodName) prog_1_method_35_code (1 : Nat) (Option.some Jvm.ClassFile.FieldType.boolean)) ∈ TT := TT_mem 212 (by decide +kernel) rfl
theorem tw_213 : (Jvm.Cond.methodLink "HammockReach" (59 : Nat) ({ cls := "HammockReach", name := "isBelow", desc := "(II)Z" } : Jvm.MethodName)) ∈ TT := TT_mem 213 (by decide +kernel) rfl
theorem tw_214 : (Jvm.Cond.static ({ cls := "HammockReach", name := "isBelow", desc := "(II)Z" } : Jvm.MethodName)) ∈ TT := TT_mem 214 (by decide +kernel) rfl
theorem tw_215 : (Jvm.Cond.code ({ cls := "HammockReach", name := "isBelow", desc := "(II)Z" } : Jvm.MethodName) prog_1_method_34_code (2 : Nat) (Option.some Jvm.ClassFile.FieldType.boolean)) ∈ TT := TT_mem 215 (by decide +kernel) rfl
theorem tw_216 : (Jvm.Cond.constant "HammockReach" (63 : Nat) (-1000001 : Int32)) ∈ TT := TT_mem 216 (by decide +kernel) rfl
theorem tw_217 : (Jvm.Cond.methodLink "HammockReach" (64 : Nat) ({ cls := "HammockReach", name := "finds", desc := "(I)I" } : Jvm.MethodName)) ∈ TT := TT_mem 217 (by decide +kernel) rfl
theorem tw_219 : (Jvm.Cond.instanceMethod ({ cls := "HammockReach", name := "finds", desc := "(I)I" } : Jvm.MethodName)) ∈ TT := TT_mem 219 (by decide +kernel) rfl
theorem tw_220 : (Jvm.Cond.code ({ cls := "HammockReach", name := "finds", desc := "(I)I" } : Jvm.MethodName) prog_1_method_39_code (2 : Nat) (Option.some Jvm.ClassFile.FieldType.int)) ∈ TT := TT_mem 220 (by decide +kernel) rfl
theorem tw_221 : (Jvm.Cond.constant "HammockReach" (253 : Nat) (-1000010 : Int32)) ∈ TT := TT_mem 221 (by decide +kernel) rfl
theorem tw_222 : (Jvm.Cond.methodLink "HammockReach" (72 : Nat) ({ cls := "HammockReach$Row", name := "begin", desc := "(II)V" } : Jvm.MethodName)) ∈ TT := TT_mem 222 (by decide +kernel) rfl
theorem tw_223 : (Jvm.Cond.instanceMethod ({ cls := "HammockReach$Row", name := "begin", desc := "(II)V" } : Jvm.MethodName)) ∈ TT := TT_mem 223 (by decide +kernel) rfl
theorem tw_224 : (Jvm.Cond.selects "HammockReach$Row" ({ cls := "HammockReach$Row", name := "begin", desc := "(II)V" } : Jvm.MethodName) ({ cls := "HammockReach$Row", name := "begin", desc := "(II)V" } : Jvm.MethodName)) ∈ TT := TT_mem 224 (by decide +kernel) rfl
theorem tw_225 : (Jvm.Cond.code ({ cls := "HammockReach$Row", name := "begin", desc := "(II)V" } : Jvm.MethodName) prog_5_method_2_code (4 : Nat) (Option.none : Option Jvm.ClassFile.FieldType)) ∈ TT := TT_mem 225 (by decide +kernel) rfl
theorem tw_226 : (Jvm.Cond.methodLink "HammockReachLaw" (18 : Nat) ({ cls := "HammockReach", name := "set", desc := "(III)I" } : Jvm.MethodName)) ∈ TT := TT_mem 226 (by decide +kernel) rfl
theorem tw_227 : (Jvm.Cond.instanceMethod ({ cls := "HammockReach", name := "set", desc := "(III)I" } : Jvm.MethodName)) ∈ TT := TT_mem 227 (by decide +kernel) rfl
theorem tw_228 : (Jvm.Cond.selects "HammockReach" ({ cls := "HammockReach", name := "set", desc := "(III)I" } : Jvm.MethodName) ({ cls := "HammockReach", name := "set", desc := "(III)I" } : Jvm.MethodName)) ∈ TT := TT_mem 228 (by decide +kernel) rfl
theorem tw_229 : (Jvm.Cond.code ({ cls := "HammockReach", name := "set", desc := "(III)I" } : Jvm.MethodName) prog_1_method_3_code (5 : Nat) (Option.some Jvm.ClassFile.FieldType.int)) ∈ TT := TT_mem 229 (by decide +kernel) rfl
theorem tw_230 : (Jvm.Cond.methodLink "HammockReach" (85 : Nat) ({ cls := "HammockReach$Row", name := "narrowed", desc := "(I)I" } : Jvm.MethodName)) ∈ TT := TT_mem 230 (by decide +kernel) rfl
theorem tw_231 : (Jvm.Cond.instanceMethod ({ cls := "HammockReach$Row", name := "narrowed", desc := "(I)I" } : Jvm.MethodName)) ∈ TT := TT_mem 231 (by decide +kernel) rfl
theorem tw_232 : (Jvm.Cond.selects "HammockReach$Row" ({ cls := "HammockReach$Row", name := "narrowed", desc := "(I)I" } : Jvm.MethodName) ({ cls := "HammockReach$Row", name := "narrowed", desc := "(I)I" } : Jvm.MethodName)) ∈ TT := TT_mem 232 (by decide +kernel) rfl
theorem tw_233 : (Jvm.Cond.code ({ cls := "HammockReach$Row", name := "narrowed", desc := "(I)I" } : Jvm.MethodName) prog_5_method_3_code (2 : Nat) (Option.some Jvm.ClassFile.FieldType.int)) ∈ TT := TT_mem 233 (by decide +kernel) rfl
theorem tw_234 : (Jvm.Cond.methodLink "HammockReachLaw" (22 : Nat) ({ cls := "HammockReach", name := "copy", desc := "(IIIII)I" } : Jvm.MethodName)) ∈ TT := TT_mem 234 (by decide +kernel) rfl
theorem tw_235 : (Jvm.Cond.instanceMethod ({ cls := "HammockReach", name := "copy", desc := "(IIIII)I" } : Jvm.MethodName)) ∈ TT := TT_mem 235 (by decide +kernel) rfl
theorem tw_236 : (Jvm.Cond.selects "HammockReach" ({ cls := "HammockReach", name := "copy", desc := "(IIIII)I" } : Jvm.MethodName) ({ cls := "HammockReach", name := "copy", desc := "(IIIII)I" } : Jvm.MethodName)) ∈ TT := TT_mem 236 (by decide +kernel) rfl
theorem tw_237 : (Jvm.Cond.code ({ cls := "HammockReach", name := "copy", desc := "(IIIII)I" } : Jvm.MethodName) prog_1_method_4_code (8 : Nat) (Option.some Jvm.ClassFile.FieldType.int)) ∈ TT := TT_mem 237 (by decide +kernel) rfl
theorem tw_238 : (Jvm.Cond.methodLink "HammockReach" (88 : Nat) ({ cls := "HammockReach$Row", name := "hasSpan", desc := "(II)Z" } : Jvm.MethodName)) ∈ TT := TT_mem 238 (by decide +kernel) rfl
theorem tw_239 : (Jvm.Cond.instanceMethod ({ cls := "HammockReach$Row", name := "hasSpan", desc := "(II)Z" } : Jvm.MethodName)) ∈ TT := TT_mem 239 (by decide +kernel) rfl
theorem tw_240 : (Jvm.Cond.selects "HammockReach$Row" ({ cls := "HammockReach$Row", name := "hasSpan", desc := "(II)Z" } : Jvm.MethodName) ({ cls := "HammockReach$Row", name := "hasSpan", desc := "(II)Z" } : Jvm.MethodName)) ∈ TT := TT_mem 240 (by decide +kernel) rfl
theorem tw_241 : (Jvm.Cond.code ({ cls := "HammockReach$Row", name := "hasSpan", desc := "(II)Z" } : Jvm.MethodName) prog_5_method_4_code (3 : Nat) (Option.some Jvm.ClassFile.FieldType.boolean)) ∈ TT := TT_mem 241 (by decide +kernel) rfl
theorem tw_242 : (Jvm.Cond.methodLink "HammockReach" (91 : Nat) ({ cls := "java/lang/System", name := "arraycopy", desc := "(Ljava/lang/Object;ILjava/lang/Object;II)V" } : Jvm.MethodName)) ∈ TT := TT_mem 242 (by decide +kernel) rfl
theorem tw_243 : (Jvm.Cond.static ({ cls := "java/lang/System", name := "arraycopy", desc := "(Ljava/lang/Object;ILjava/lang/Object;II)V" } : Jvm.MethodName)) ∈ TT := TT_mem 243 (by decide +kernel) rfl
theorem tw_244 : (Jvm.Cond.native ({ cls := "java/lang/System", name := "arraycopy", desc := "(Ljava/lang/Object;ILjava/lang/Object;II)V" } : Jvm.MethodName)) ∈ TT := TT_mem 244 (by decide +kernel) rfl
theorem tw_245 : (Jvm.Cond.methodLink "HammockReachLaw" (27 : Nat) ({ cls := "HammockReach", name := "drop", desc := "(I)I" } : Jvm.MethodName)) ∈ TT := TT_mem 245 (by decide +kernel) rfl
theorem tw_246 : (Jvm.Cond.instanceMethod ({ cls := "HammockReach", name := "drop", desc := "(I)I" } : Jvm.MethodName)) ∈ TT := TT_mem 246 (by decide +kernel) rfl
theorem tw_247 : (Jvm.Cond.selects "HammockReach" ({ cls := "HammockReach", name := "drop", desc := "(I)I" } : Jvm.MethodName) ({ cls := "HammockReach", name := "drop", desc := "(I)I" } : Jvm.MethodName)) ∈ TT := TT_mem 247 (by decide +kernel) rfl
theorem tw_248 : (Jvm.Cond.code ({ cls := "HammockReach", name := "drop", desc := "(I)I" } : Jvm.MethodName) prog_1_method_5_code (3 : Nat) (Option.some Jvm.ClassFile.FieldType.int)) ∈ TT := TT_mem 248 (by decide +kernel) rfl
theorem tw_249 : (Jvm.Cond.methodLink "HammockReachLaw" (32 : Nat) ({ cls := "HammockReach", name := "feed", desc := "(I)I" } : Jvm.MethodName)) ∈ TT := TT_mem 249 (by decide +kernel) rfl
theorem tw_250 : (Jvm.Cond.instanceMethod ({ cls := "HammockReach", name := "feed", desc := "(I)I" } : Jvm.MethodName)) ∈ TT := TT_mem 250 (by decide +kernel) rfl
theorem tw_251 : (Jvm.Cond.selects "HammockReach" ({ cls := "HammockReach", name := "feed", desc := "(I)I" } : Jvm.MethodName) ({ cls := "HammockReach", name := "feed", desc := "(I)I" } : Jvm.MethodName)) ∈ TT := TT_mem 251 (by decide +kernel) rfl
theorem tw_252 : (Jvm.Cond.code ({ cls := "HammockReach", name := "feed", desc := "(I)I" } : Jvm.MethodName) prog_1_method_6_code (2 : Nat) (Option.some Jvm.ClassFile.FieldType.int)) ∈ TT := TT_mem 252 (by decide +kernel) rfl
theorem tw_253 : (Jvm.Cond.constant "HammockReach" (100 : Nat) (-1000003 : Int32)) ∈ TT := TT_mem 253 (by decide +kernel) rfl
theorem tw_254 : (Jvm.Cond.methodLink "HammockReachLaw" (36 : Nat) ({ cls := "HammockReach", name := "forest", desc := "()I" } : Jvm.MethodName)) ∈ TT := TT_mem 254 (by decide +kernel) rfl
theorem tw_255 : (Jvm.Cond.instanceMethod ({ cls := "HammockReach", name := "forest", desc := "()I" } : Jvm.MethodName)) ∈ TT := TT_mem 255 (by decide +kernel) rfl
theorem tw_256 : (Jvm.Cond.selects "HammockReach" ({ cls := "HammockReach", name := "forest", desc := "()I" } : Jvm.MethodName) ({ cls := "HammockReach", name := "forest", desc := "()I" } : Jvm.MethodName)) ∈ TT := TT_mem 256 (by decide +kernel) rfl
theorem tw_257 : (Jvm.Cond.code ({ cls := "HammockReach", name := "forest", desc := "()I" } : Jvm.MethodName) prog_1_method_7_code (2 : Nat) (Option.some Jvm.ClassFile.FieldType.int)) ∈ TT := TT_mem 257 (by decide +kernel) rfl
theorem tw_258 : (Jvm.Cond.methodLink "HammockReach" (104 : Nat) ({ cls := "HammockReach$Tape", name := "readInto", desc := "(LHammockReach$Forest;)Z" } : Jvm.MethodName)) ∈ TT := TT_mem 258 (by decide +kernel) rfl
theorem tw_259 : (Jvm.Cond.instanceMethod ({ cls := "HammockReach$Tape", name := "readInto", desc := "(LHammockReach$Forest;)Z" } : Jvm.MethodName)) ∈ TT := TT_mem 259 (by decide +kernel) rfl
theorem tw_260 : (Jvm.Cond.selects "HammockReach$Tape" ({ cls := "HammockReach$Tape", name := "readInto", desc := "(LHammockReach$Forest;)Z" } : Jvm.MethodName) ({ cls := "HammockReach$Tape", name := "readInto", desc := "(LHammockReach$Forest;)Z" } : Jvm.MethodName)) ∈ TT := TT_mem 260 (by decide +kernel) rfl
theorem tw_261 : (Jvm.Cond.code ({ cls := "HammockReach$Tape", name := "readInto", desc := "(LHammockReach$Forest;)Z" } : Jvm.MethodName) prog_6_method_2_code (3 : Nat) (Option.some Jvm.ClassFile.FieldType.boolean)) ∈ TT := TT_mem 261 (by decide +kernel) rfl
theorem tw_262 : (Jvm.Cond.methodLink "HammockReach$Tape" (19 : Nat) ({ cls := "HammockReach$Forest", name := "begin", desc := "()V" } : Jvm.MethodName)) ∈ TT := TT_mem 262 (by decide +kernel) rfl
theorem tw_263 : (Jvm.Cond.instanceMethod ({ cls := "HammockReach$Forest", name := "begin", desc := "()V" } : Jvm.MethodName)) ∈ TT := TT_mem 263 (by decide +kernel) rfl
theorem tw_264 : (Jvm.Cond.selects "HammockReach$Forest" ({ cls := "HammockReach$Forest", name := "begin", desc := "()V" } : Jvm.MethodName) ({ cls := "HammockReach$Forest", name := "begin", desc := "()V" } : Jvm.MethodName)) ∈ TT := TT_mem 264 (by decide +kernel) rfl
theorem tw_265 : (Jvm.Cond.code ({ cls := "HammockReach$Forest", name := "begin", desc := "()V" } : Jvm.MethodName) prog_3_method_2_code (1 : Nat) (Option.none : Option Jvm.ClassFile.FieldType)) ∈ TT := TT_mem 265 (by decide +kernel) rfl
theorem tw_266 : (Jvm.Cond.methodLink "HammockReach$Tape" (24 : Nat) ({ cls := "HammockReach$Tape", name := "readLaw", desc := "(LHammockReach$Forest;)Z" } : Jvm.MethodName)) ∈ TT := TT_mem 266 (by decide +kernel) rfl
theorem tw_268 : (Jvm.Cond.instanceMethod ({ cls := "HammockReach$Tape", name := "readLaw", desc := "(LHammockReach$Forest;)Z" } : Jvm.MethodName)) ∈ TT := TT_mem 268 (by decide +kernel) rfl
theorem tw_269 : (Jvm.Cond.code ({ cls := "HammockReach$Tape", name := "readLaw", desc := "(LHammockReach$Forest;)Z" } : Jvm.MethodName) prog_6_method_3_code (2 : Nat) (Option.some Jvm.ClassFile.FieldType.boolean)) ∈ TT := TT_mem 269 (by decide +kernel) rfl
theorem tw_270 : (Jvm.Cond.methodLink "HammockReach$Tape" (34 : Nat) ({ cls := "HammockReach$Tape", name := "readSign", desc := "(I)Z" } : Jvm.MethodName)) ∈ TT := TT_mem 270 (by decide +kernel) rfl
theorem tw_272 : (Jvm.Cond.instanceMethod ({ cls := "HammockReach$Tape", name := "readSign", desc := "(I)Z" } : Jvm.MethodName)) ∈ TT := TT_mem 272 (by decide +kernel) rfl
theorem tw_273 : (Jvm.Cond.code ({ cls := "HammockReach$Tape", name := "readSign", desc := "(I)Z" } : Jvm.MethodName) prog_6_method_7_code (2 : Nat) (Option.some Jvm.ClassFile.FieldType.boolean)) ∈ TT := TT_mem 273 (by decide +kernel) rfl
theorem tw_274 : (Jvm.Cond.methodLink "HammockReach$Tape" (51 : Nat) ({ cls := "HammockReach$Tape", name := "byteAt", desc := "(I)I" } : Jvm.MethodName)) ∈ TT := TT_mem 274 (by decide +kernel) rfl
theorem tw_276 : (Jvm.Cond.instanceMethod ({ cls := "HammockReach$Tape", name := "byteAt", desc := "(I)I" } : Jvm.MethodName)) ∈ TT := TT_mem 276 (by decide +kernel) rfl
theorem tw_277 : (Jvm.Cond.code ({ cls := "HammockReach$Tape", name := "byteAt", desc := "(I)I" } : Jvm.MethodName) prog_6_method_10_code (2 : Nat) (Option.some Jvm.ClassFile.FieldType.int)) ∈ TT := TT_mem 277 (by decide +kernel) rfl
theorem tw_279 : (Jvm.Cond.methodLink "HammockReach$Tape" (58 : Nat) ({ cls := "HammockReach$Tape", name := "refuse", desc := "(I)Z" } : Jvm.MethodName)) ∈ TT := TT_mem 279 (by decide +kernel) rfl
theorem tw_281 : (Jvm.Cond.instanceMethod ({ cls := "HammockReach$Tape", name := "refuse", desc := "(I)Z" } : Jvm.MethodName)) ∈ TT := TT_mem 281 (by decide +kernel) rfl
theorem tw_282 : (Jvm.Cond.code ({ cls := "HammockReach$Tape", name := "refuse", desc := "(I)Z" } : Jvm.MethodName) prog_6_method_9_code (2 : Nat) (Option.some Jvm.ClassFile.FieldType.boolean)) ∈ TT := TT_mem 282 (by decide +kernel) rfl
theorem tw_283 : (Jvm.Cond.methodLink "HammockReach$Tape" (38 : Nat) ({ cls := "HammockReach$Tape", name := "readNumber", desc := "(II)I" } : Jvm.MethodName)) ∈ TT := TT_mem 283 (by decide +kernel) rfl
theorem tw_285 : (Jvm.Cond.instanceMethod ({ cls := "HammockReach$Tape", name := "readNumber", desc := "(II)I" } : Jvm.MethodName)) ∈ TT := TT_mem 285 (by decide +kernel) rfl
theorem tw_286 : (Jvm.Cond.code ({ cls := "HammockReach$Tape", name := "readNumber", desc := "(II)I" } : Jvm.MethodName) prog_6_method_8_code (6 : Nat) (Option.some Jvm.ClassFile.FieldType.int)) ∈ TT := TT_mem 286 (by decide +kernel) rfl
theorem tw_287 : (Jvm.Cond.methodLink "HammockReach$Tape" (83 : Nat) ({ cls := "HammockReach$Tape", name := "isFigure", desc := "(I)Z" } : Jvm.MethodName)) ∈ TT := TT_mem 287 (by decide +kernel) rfl
theorem tw_288 : (Jvm.Cond.static ({ cls := "HammockReach$Tape", name := "isFigure", desc := "(I)Z" } : Jvm.MethodName)) ∈ TT := TT_mem 288 (by decide +kernel) rfl
theorem tw_289 : (Jvm.Cond.code ({ cls := "HammockReach$Tape", name := "isFigure", desc := "(I)Z" } : Jvm.MethodName) prog_6_method_11_code (1 : Nat) (Option.some Jvm.ClassFile.FieldType.boolean)) ∈ TT := TT_mem 289 (by decide +kernel) rfl
theorem tw_290 : (Jvm.Cond.methodLink "HammockReach$Tape" (31 : Nat) ({ cls := "HammockReach$Tape", name := "readHammock", desc := "(LHammockReach$Forest;)Z" } : Jvm.MethodName)) ∈ TT := TT_mem 290 (by decide +kernel) rfl
theorem tw_292 : (Jvm.Cond.instanceMethod ({ cls := "HammockReach$Tape", name := "readHammock", desc := "(LHammockReach$Forest;)Z" } : Jvm.MethodName)) ∈ TT := TT_mem 292 (by decide +kernel) rfl
theorem tw_293 : (Jvm.Cond.code ({ cls := "HammockReach$Tape", name := "readHammock", desc := "(LHammockReach$Forest;)Z" } : Jvm.MethodName) prog_6_method_4_code (4 : Nat) (Option.some Jvm.ClassFile.FieldType.boolean)) ∈ TT := TT_mem 293 (by decide +kernel) rfl
theorem tw_294 : (Jvm.Cond.methodLink "HammockReach$Tape" (55 : Nat) ({ cls := "HammockReach$Tape", name := "sortOf", desc := "(I)I" } : Jvm.MethodName)) ∈ TT := TT_mem 294 (by decide +kernel) rfl
theorem tw_295 : (Jvm.Cond.static ({ cls := "HammockReach$Tape", name := "sortOf", desc := "(I)I" } : Jvm.MethodName)) ∈ TT := TT_mem 295 (by decide +kernel) rfl
theorem tw_296 : (Jvm.Cond.code ({ cls := "HammockReach$Tape", name := "sortOf", desc := "(I)I" } : Jvm.MethodName) prog_6_method_12_code (1 : Nat) (Option.some Jvm.ClassFile.FieldType.int)) ∈ TT := TT_mem 296 (by decide +kernel) rfl
theorem tw_297 : (Jvm.Cond.methodLink "HammockReach$Tape" (64 : Nat) ({ cls := "HammockReach$Tape", name := "readTrees", desc := "(LHammockReach$Forest;I)Z" } : Jvm.MethodName)) ∈ TT := TT_mem 297 (by decide +kernel) rfl
theorem tw_299 : (Jvm.Cond.instanceMethod ({ cls := "HammockReach$Tape", name := "readTrees", desc := "(LHammockReach$Forest;I)Z" } : Jvm.MethodName)) ∈ TT := TT_mem 299 (by decide +kernel) rfl
theorem tw_300 : (Jvm.Cond.code ({ cls := "HammockReach$Tape", name := "readTrees", desc := "(LHammockReach$Forest;I)Z" } : Jvm.MethodName) prog_6_method_5_code (3 : Nat) (Option.some Jvm.ClassFile.FieldType.boolean)) ∈ TT := TT_mem 300 (by decide +kernel) rfl
theorem tw_301 : (Jvm.Cond.methodLink "HammockReach$Tape" (68 : Nat) ({ cls := "HammockReach$Tape", name := "readLoad", desc := "(LHammockReach$Forest;I)Z" } : Jvm.MethodName)) ∈ TT := TT_mem 301 (by decide +kernel) rfl
theorem tw_303 : (Jvm.Cond.instanceMethod ({ cls := "HammockReach$Tape", name := "readLoad", desc := "(LHammockReach$Forest;I)Z" } : Jvm.MethodName)) ∈ TT := TT_mem 303 (by decide +kernel) rfl
theorem tw_304 : (Jvm.Cond.code ({ cls := "HammockReach$Tape", name := "readLoad", desc := "(LHammockReach$Forest;I)Z" } : Jvm.MethodName) prog_6_method_6_code (3 : Nat) (Option.some Jvm.ClassFile.FieldType.boolean)) ∈ TT := TT_mem 304 (by decide +kernel) rfl
theorem tw_305 : (Jvm.Cond.constant "HammockReach" (108 : Nat) (-1000100 : Int32)) ∈ TT := TT_mem 305 (by decide +kernel) rfl
theorem tw_306 : (Jvm.Cond.methodLink "HammockReach" (112 : Nat) ({ cls := "HammockReach$Forest", name := "takeFrom", desc := "(LHammockReach$Forest;)V" } : Jvm.MethodName)) ∈ TT := TT_mem 306 (by decide +kernel) rfl
theorem tw_307 : (Jvm.Cond.instanceMethod ({ cls := "HammockReach$Forest", name := "takeFrom", desc := "(LHammockReach$Forest;)V" } : Jvm.MethodName)) ∈ TT := TT_mem 307 (by decide +kernel) rfl
theorem tw_308 : (Jvm.Cond.selects "HammockReach$Forest" ({ cls := "HammockReach$Forest", name := "takeFrom", desc := "(LHammockReach$Forest;)V" } : Jvm.MethodName) ({ cls := "HammockReach$Forest", name := "takeFrom", desc := "(LHammockReach$Forest;)V" } : Jvm.MethodName)) ∈ TT := TT_mem 308 (by decide +kernel) rfl
theorem tw_309 : (Jvm.Cond.code ({ cls := "HammockReach$Forest", name := "takeFrom", desc := "(LHammockReach$Forest;)V" } : Jvm.MethodName) prog_3_method_3_code (2 : Nat) (Option.none : Option Jvm.ClassFile.FieldType)) ∈ TT := TT_mem 309 (by decide +kernel) rfl
theorem tw_310 : (Jvm.Cond.methodLink "HammockReach$Forest" (41 : Nat) ({ cls := "java/lang/System", name := "arraycopy", desc := "(Ljava/lang/Object;ILjava/lang/Object;II)V" } : Jvm.MethodName)) ∈ TT := TT_mem 310 (by decide +kernel) rfl
theorem tw_311 : (Jvm.Cond.methodLink "HammockReach" (116 : Nat) ({ cls := "HammockReach$Acts", name := "forget", desc := "()V" } : Jvm.MethodName)) ∈ TT := TT_mem 311 (by decide +kernel) rfl
theorem tw_312 : (Jvm.Cond.instanceMethod ({ cls := "HammockReach$Acts", name := "forget", desc := "()V" } : Jvm.MethodName)) ∈ TT := TT_mem 312 (by decide +kernel) rfl
theorem tw_313 : (Jvm.Cond.selects "HammockReach$Acts" ({ cls := "HammockReach$Acts", name := "forget", desc := "()V" } : Jvm.MethodName) ({ cls := "HammockReach$Acts", name := "forget", desc := "()V" } : Jvm.MethodName)) ∈ TT := TT_mem 313 (by decide +kernel) rfl
theorem tw_314 : (Jvm.Cond.code ({ cls := "HammockReach$Acts", name := "forget", desc := "()V" } : Jvm.MethodName) prog_2_method_2_code (1 : Nat) (Option.none : Option Jvm.ClassFile.FieldType)) ∈ TT := TT_mem 314 (by decide +kernel) rfl
theorem tw_315 : (Jvm.Cond.methodLink "HammockReachLaw" (41 : Nat) ({ cls := "HammockReach", name := "fault", desc := "()I" } : Jvm.MethodName)) ∈ TT := TT_mem 315 (by decide +kernel) rfl
theorem tw_316 : (Jvm.Cond.instanceMethod ({ cls := "HammockReach", name := "fault", desc := "()I" } : Jvm.MethodName)) ∈ TT := TT_mem 316 (by decide +kernel) rfl
theorem tw_317 : (Jvm.Cond.selects "HammockReach" ({ cls := "HammockReach", name := "fault", desc := "()I" } : Jvm.MethodName) ({ cls := "HammockReach", name := "fault", desc := "()I" } : Jvm.MethodName)) ∈ TT := TT_mem 317 (by decide +kernel) rfl
theorem tw_318 : (Jvm.Cond.code ({ cls := "HammockReach", name := "fault", desc := "()I" } : Jvm.MethodName) prog_1_method_8_code (1 : Nat) (Option.some Jvm.ClassFile.FieldType.int)) ∈ TT := TT_mem 318 (by decide +kernel) rfl
theorem tw_319 : (Jvm.Cond.methodLink "HammockReachLaw" (45 : Nat) ({ cls := "HammockReach", name := "minutes", desc := "(I)I" } : Jvm.MethodName)) ∈ TT := TT_mem 319 (by decide +kernel) rfl
theorem tw_320 : (Jvm.Cond.instanceMethod ({ cls := "HammockReach", name := "minutes", desc := "(I)I" } : Jvm.MethodName)) ∈ TT := TT_mem 320 (by decide +kernel) rfl
theorem tw_321 : (Jvm.Cond.selects "HammockReach" ({ cls := "HammockReach", name := "minutes", desc := "(I)I" } : Jvm.MethodName) ({ cls := "HammockReach", name := "minutes", desc := "(I)I" } : Jvm.MethodName)) ∈ TT := TT_mem 321 (by decide +kernel) rfl
theorem tw_322 : (Jvm.Cond.code ({ cls := "HammockReach", name := "minutes", desc := "(I)I" } : Jvm.MethodName) prog_1_method_9_code (3 : Nat) (Option.some Jvm.ClassFile.FieldType.int)) ∈ TT := TT_mem 322 (by decide +kernel) rfl
theorem tw_323 : (Jvm.Cond.constant "HammockReach" (127 : Nat) (-1000002 : Int32)) ∈ TT := TT_mem 323 (by decide +kernel) rfl
theorem tw_324 : (Jvm.Cond.methodLink "HammockReach" (131 : Nat) ({ cls := "HammockReach$Acts", name := "keep", desc := "(IIII)V" } : Jvm.MethodName)) ∈ TT := TT_mem 324 (by decide +kernel) rfl
theorem tw_325 : (Jvm.Cond.instanceMethod ({ cls := "HammockReach$Acts", name := "keep", desc := "(IIII)V" } : Jvm.MethodName)) ∈ TT := TT_mem 325 (by decide +kernel) rfl
theorem tw_326 : (Jvm.Cond.selects "HammockReach$Acts" ({ cls := "HammockReach$Acts", name := "keep", desc := "(IIII)V" } : Jvm.MethodName) ({ cls := "HammockReach$Acts", name := "keep", desc := "(IIII)V" } : Jvm.MethodName)) ∈ TT := TT_mem 326 (by decide +kernel) rfl
theorem tw_327 : (Jvm.Cond.code ({ cls := "HammockReach$Acts", name := "keep", desc := "(IIII)V" } : Jvm.MethodName) prog_2_method_3_code (6 : Nat) (Option.none : Option Jvm.ClassFile.FieldType)) ∈ TT := TT_mem 327 (by decide +kernel) rfl
theorem tw_328 : (Jvm.Cond.methodLink "HammockReach" (135 : Nat) ({ cls := "HammockReach$Forest", name := "downBits", desc := "(I)I" } : Jvm.MethodName)) ∈ TT := TT_mem 328 (by decide +kernel) rfl
theorem tw_329 : (Jvm.Cond.instanceMethod ({ cls := "HammockReach$Forest", name := "downBits", desc := "(I)I" } : Jvm.MethodName)) ∈ TT := TT_mem 329 (by decide +kernel) rfl
theorem tw_330 : (Jvm.Cond.selects "HammockReach$Forest" ({ cls := "HammockReach$Forest", name := "downBits", desc := "(I)I" } : Jvm.MethodName) ({ cls := "HammockReach$Forest", name := "downBits", desc := "(I)I" } : Jvm.MethodName)) ∈ TT := TT_mem 330 (by decide +kernel) rfl
theorem tw_331 : (Jvm.Cond.code ({ cls := "HammockReach$Forest", name := "downBits", desc := "(I)I" } : Jvm.MethodName) prog_3_method_7_code (4 : Nat) (Option.some Jvm.ClassFile.FieldType.int)) ∈ TT := TT_mem 331 (by decide +kernel) rfl
theorem tw_332 : (Jvm.Cond.methodLink "HammockReach$Forest" (61 : Nat) ({ cls := "HammockReach$Forest", name := "isDown", desc := "(II)Z" } : Jvm.MethodName)) ∈ TT := TT_mem 332 (by decide +kernel) rfl
theorem tw_333 : (Jvm.Cond.instanceMethod ({ cls := "HammockReach$Forest", name := "isDown", desc := "(II)Z" } : Jvm.MethodName)) ∈ TT := TT_mem 333 (by decide +kernel) rfl
theorem tw_334 : (Jvm.Cond.selects "HammockReach$Forest" ({ cls := "HammockReach$Forest", name := "isDown", desc := "(II)Z" } : Jvm.MethodName) ({ cls := "HammockReach$Forest", name := "isDown", desc := "(II)Z" } : Jvm.MethodName)) ∈ TT := TT_mem 334 (by decide +kernel) rfl
theorem tw_335 : (Jvm.Cond.code ({ cls := "HammockReach$Forest", name := "isDown", desc := "(II)Z" } : Jvm.MethodName) prog_3_method_6_code (3 : Nat) (Option.some Jvm.ClassFile.FieldType.boolean)) ∈ TT := TT_mem 335 (by decide +kernel) rfl
theorem tw_336 : (Jvm.Cond.methodLink "HammockReach$Forest" (53 : Nat) ({ cls := "HammockReach$Forest", name := "isCut", desc := "(I)Z" } : Jvm.MethodName)) ∈ TT := TT_mem 336 (by decide +kernel) rfl
theorem tw_337 : (Jvm.Cond.instanceMethod ({ cls := "HammockReach$Forest", name := "isCut", desc := "(I)Z" } : Jvm.MethodName)) ∈ TT := TT_mem 337 (by decide +kernel) rfl
theorem tw_338 : (Jvm.Cond.selects "HammockReach$Forest" ({ cls := "HammockReach$Forest", name := "isCut", desc := "(I)Z" } : Jvm.MethodName) ({ cls := "HammockReach$Forest", name := "isCut", desc := "(I)Z" } : Jvm.MethodName)) ∈ TT := TT_mem 338 (by decide +kernel) rfl
theorem tw_339 : (Jvm.Cond.code ({ cls := "HammockReach$Forest", name := "isCut", desc := "(I)Z" } : Jvm.MethodName) prog_3_method_4_code (2 : Nat) (Option.some Jvm.ClassFile.FieldType.boolean)) ∈ TT := TT_mem 339 (by decide +kernel) rfl
theorem tw_340 : (Jvm.Cond.methodLink "HammockReach$Forest" (57 : Nat) ({ cls := "HammockReach$Forest", name := "dip", desc := "(II)I" } : Jvm.MethodName)) ∈ TT := TT_mem 340 (by decide +kernel) rfl
theorem tw_341 : (Jvm.Cond.instanceMethod ({ cls := "HammockReach$Forest", name := "dip", desc := "(II)I" } : Jvm.MethodName)) ∈ TT := TT_mem 341 (by decide +kernel) rfl
theorem tw_342 : (Jvm.Cond.selects "HammockReach$Forest" ({ cls := "HammockReach$Forest", name := "dip", desc := "(II)I" } : Jvm.MethodName) ({ cls := "HammockReach$Forest", name := "dip", desc := "(II)I" } : Jvm.MethodName)) ∈ TT := TT_mem 342 (by decide +kernel) rfl
theorem tw_343 : (Jvm.Cond.code ({ cls := "HammockReach$Forest", name := "dip", desc := "(II)I" } : Jvm.MethodName) prog_3_method_5_code (5 : Nat) (Option.some Jvm.ClassFile.FieldType.int)) ∈ TT := TT_mem 343 (by decide +kernel) rfl
theorem tw_344 : (Jvm.Cond.methodLink "HammockReachLaw" (49 : Nat) ({ cls := "HammockReach", name := "sling", desc := "(III)I" } : Jvm.MethodName)) ∈ TT := TT_mem 344 (by decide +kernel) rfl
theorem tw_345 : (Jvm.Cond.instanceMethod ({ cls := "HammockReach", name := "sling", desc := "(III)I" } : Jvm.MethodName)) ∈ TT := TT_mem 345 (by decide +kernel) rfl
theorem tw_346 : (Jvm.Cond.selects "HammockReach" ({ cls := "HammockReach", name := "sling", desc := "(III)I" } : Jvm.MethodName) ({ cls := "HammockReach", name := "sling", desc := "(III)I" } : Jvm.MethodName)) ∈ TT := TT_mem 346 (by decide +kernel) rfl
theorem tw_347 : (Jvm.Cond.code ({ cls := "HammockReach", name := "sling", desc := "(III)I" } : Jvm.MethodName) prog_1_method_10_code (4 : Nat) (Option.some Jvm.ClassFile.FieldType.int)) ∈ TT := TT_mem 347 (by decide +kernel) rfl
theorem tw_348 : (Jvm.Cond.methodLink "HammockReach" (138 : Nat) ({ cls := "HammockReach", name := "isHammock", desc := "(I)Z" } : Jvm.MethodName)) ∈ TT := TT_mem 348 (by decide +kernel) rfl
theorem tw_350 : (Jvm.Cond.instanceMethod ({ cls := "HammockReach", name := "isHammock", desc := "(I)Z" } : Jvm.MethodName)) ∈ TT := TT_mem 350 (by decide +kernel) rfl
theorem tw_351 : (Jvm.Cond.code ({ cls := "HammockReach", name := "isHammock", desc := "(I)Z" } : Jvm.MethodName) prog_1_method_37_code (2 : Nat) (Option.some Jvm.ClassFile.FieldType.boolean)) ∈ TT := TT_mem 351 (by decide +kernel) rfl
theorem tw_352 : (Jvm.Cond.methodLink "HammockReach" (147 : Nat) ({ cls := "HammockReach$Forest", name := "place", desc := "(II)I" } : Jvm.MethodName)) ∈ TT := TT_mem 352 (by decide +kernel) rfl
theorem tw_353 : (Jvm.Cond.instanceMethod ({ cls := "HammockReach$Forest", name := "place", desc := "(II)I" } : Jvm.MethodName)) ∈ TT := TT_mem 353 (by decide +kernel) rfl
theorem tw_354 : (Jvm.Cond.selects "HammockReach$Forest" ({ cls := "HammockReach$Forest", name := "place", desc := "(II)I" } : Jvm.MethodName) ({ cls := "HammockReach$Forest", name := "place", desc := "(II)I" } : Jvm.MethodName)) ∈ TT := TT_mem 354 (by decide +kernel) rfl
theorem tw_355 : (Jvm.Cond.code ({ cls := "HammockReach$Forest", name := "place", desc := "(II)I" } : Jvm.MethodName) prog_3_method_8_code (3 : Nat) (Option.some Jvm.ClassFile.FieldType.int)) ∈ TT := TT_mem 355 (by decide +kernel) rfl
theorem tw_356 : (Jvm.Cond.methodLink "HammockReach$Forest" (65 : Nat) ({ cls := "HammockReach$Forest", name := "offset", desc := "(II)I" } : Jvm.MethodName)) ∈ TT := TT_mem 356 (by decide +kernel) rfl
theorem tw_358 : (Jvm.Cond.instanceMethod ({ cls := "HammockReach$Forest", name := "offset", desc := "(II)I" } : Jvm.MethodName)) ∈ TT := TT_mem 358 (by decide +kernel) rfl
theorem tw_359 : (Jvm.Cond.code ({ cls := "HammockReach$Forest", name := "offset", desc := "(II)I" } : Jvm.MethodName) prog_3_method_9_code (3 : Nat) (Option.some Jvm.ClassFile.FieldType.int)) ∈ TT := TT_mem 359 (by decide +kernel) rfl
theorem tw_360 : (Jvm.Cond.methodLink "HammockReach$Forest" (68 : Nat) ({ cls := "HammockReach$Forest", name := "swung", desc := "(II)I" } : Jvm.MethodName)) ∈ TT := TT_mem 360 (by decide +kernel) rfl
theorem tw_361 : (Jvm.Cond.static ({ cls := "HammockReach$Forest", name := "swung", desc := "(II)I" } : Jvm.MethodName)) ∈ TT := TT_mem 361 (by decide +kernel) rfl
theorem tw_362 : (Jvm.Cond.code ({ cls := "HammockReach$Forest", name := "swung", desc := "(II)I" } : Jvm.MethodName) prog_3_method_10_code (3 : Nat) (Option.some Jvm.ClassFile.FieldType.int)) ∈ TT := TT_mem 362 (by decide +kernel) rfl
theorem tw_363 : (Jvm.Cond.methodLink "HammockReachLaw" (53 : Nat) ({ cls := "HammockReach", name := "load", desc := "(II)I" } : Jvm.MethodName)) ∈ TT := TT_mem 363 (by decide +kernel) rfl
theorem tw_364 : (Jvm.Cond.instanceMethod ({ cls := "HammockReach", name := "load", desc := "(II)I" } : Jvm.MethodName)) ∈ TT := TT_mem 364 (by decide +kernel) rfl
theorem tw_365 : (Jvm.Cond.selects "HammockReach" ({ cls := "HammockReach", name := "load", desc := "(II)I" } : Jvm.MethodName) ({ cls := "HammockReach", name := "load", desc := "(II)I" } : Jvm.MethodName)) ∈ TT := TT_mem 365 (by decide +kernel) rfl
theorem tw_366 : (Jvm.Cond.code ({ cls := "HammockReach", name := "load", desc := "(II)I" } : Jvm.MethodName) prog_1_method_11_code (3 : Nat) (Option.some Jvm.ClassFile.FieldType.int)) ∈ TT := TT_mem 366 (by decide +kernel) rfl
theorem tw_367 : (Jvm.Cond.methodLink "HammockReach" (154 : Nat) ({ cls := "HammockReach$Forest", name := "dip", desc := "(II)I" } : Jvm.MethodName)) ∈ TT := TT_mem 367 (by decide +kernel) rfl
theorem tw_368 : (Jvm.Cond.methodLink "HammockReachLaw" (58 : Nat) ({ cls := "HammockReach", name := "cord", desc := "(II)I" } : Jvm.MethodName)) ∈ TT := TT_mem 368 (by decide +kernel) rfl
theorem tw_369 : (Jvm.Cond.instanceMethod ({ cls := "HammockReach", name := "cord", desc := "(II)I" } : Jvm.MethodName)) ∈ TT := TT_mem 369 (by decide +kernel) rfl
theorem tw_370 : (Jvm.Cond.selects "HammockReach" ({ cls := "HammockReach", name := "cord", desc := "(II)I" } : Jvm.MethodName) ({ cls := "HammockReach", name := "cord", desc := "(II)I" } : Jvm.MethodName)) ∈ TT := TT_mem 370 (by decide +kernel) rfl
theorem tw_371 : (Jvm.Cond.code ({ cls := "HammockReach", name := "cord", desc := "(II)I" } : Jvm.MethodName) prog_1_method_12_code (3 : Nat) (Option.some Jvm.ClassFile.FieldType.int)) ∈ TT := TT_mem 371 (by decide +kernel) rfl
theorem tw_372 : (Jvm.Cond.methodLink "HammockReach" (157 : Nat) ({ cls := "HammockReach$Forest", name := "isCut", desc := "(I)Z" } : Jvm.MethodName)) ∈ TT := TT_mem 372 (by decide +kernel) rfl
theorem tw_373 : (Jvm.Cond.methodLink "HammockReachLaw" (62 : Nat) ({ cls := "HammockReach", name := "undo", desc := "()I" } : Jvm.MethodName)) ∈ TT := TT_mem 373 (by decide +kernel) rfl
theorem tw_374 : (Jvm.Cond.instanceMethod ({ cls := "HammockReach", name := "undo", desc := "()I" } : Jvm.MethodName)) ∈ TT := TT_mem 374 (by decide +kernel) rfl
theorem tw_375 : (Jvm.Cond.selects "HammockReach" ({ cls := "HammockReach", name := "undo", desc := "()I" } : Jvm.MethodName) ({ cls := "HammockReach", name := "undo", desc := "()I" } : Jvm.MethodName)) ∈ TT := TT_mem 375 (by decide +kernel) rfl
theorem tw_376 : (Jvm.Cond.code ({ cls := "HammockReach", name := "undo", desc := "()I" } : Jvm.MethodName) prog_1_method_13_code (1 : Nat) (Option.some Jvm.ClassFile.FieldType.int)) ∈ TT := TT_mem 376 (by decide +kernel) rfl
theorem tw_377 : (Jvm.Cond.methodLink "HammockReach" (166 : Nat) ({ cls := "HammockReach$Acts", name := "takeBack", desc := "(LHammockReach$Forest;)V" } : Jvm.MethodName)) ∈ TT := TT_mem 377 (by decide +kernel) rfl
theorem tw_378 : (Jvm.Cond.instanceMethod ({ cls := "HammockReach$Acts", name := "takeBack", desc := "(LHammockReach$Forest;)V" } : Jvm.MethodName)) ∈ TT := TT_mem 378 (by decide +kernel) rfl
theorem tw_379 : (Jvm.Cond.selects "HammockReach$Acts" ({ cls := "HammockReach$Acts", name := "takeBack", desc := "(LHammockReach$Forest;)V" } : Jvm.MethodName) ({ cls := "HammockReach$Acts", name := "takeBack", desc := "(LHammockReach$Forest;)V" } : Jvm.MethodName)) ∈ TT := TT_mem 379 (by decide +kernel) rfl
theorem tw_380 : (Jvm.Cond.code ({ cls := "HammockReach$Acts", name := "takeBack", desc := "(LHammockReach$Forest;)V" } : Jvm.MethodName) prog_2_method_4_code (4 : Nat) (Option.none : Option Jvm.ClassFile.FieldType)) ∈ TT := TT_mem 380 (by decide +kernel) rfl
theorem tw_381 : (Jvm.Cond.methodLink "HammockReachLaw" (66 : Nat) ({ cls := "HammockReach", name := "hammock", desc := "(II)I" } : Jvm.MethodName)) ∈ TT := TT_mem 381 (by decide +kernel) rfl
theorem tw_382 : (Jvm.Cond.instanceMethod ({ cls := "HammockReach", name := "hammock", desc := "(II)I" } : Jvm.MethodName)) ∈ TT := TT_mem 382 (by decide +kernel) rfl
theorem tw_383 : (Jvm.Cond.selects "HammockReach" ({ cls := "HammockReach", name := "hammock", desc := "(II)I" } : Jvm.MethodName) ({ cls := "HammockReach", name := "hammock", desc := "(II)I" } : Jvm.MethodName)) ∈ TT := TT_mem 383 (by decide +kernel) rfl
theorem tw_384 : (Jvm.Cond.code ({ cls := "HammockReach", name := "hammock", desc := "(II)I" } : Jvm.MethodName) prog_1_method_14_code (3 : Nat) (Option.some Jvm.ClassFile.FieldType.int)) ∈ TT := TT_mem 384 (by decide +kernel) rfl
theorem tw_385 : (Jvm.Cond.methodLink "HammockReachLaw" (70 : Nat) ({ cls := "HammockReach", name := "ahead", desc := "(III)I" } : Jvm.MethodName)) ∈ TT := TT_mem 385 (by decide +kernel) rfl
theorem tw_386 : (Jvm.Cond.instanceMethod ({ cls := "HammockReach", name := "ahead", desc := "(III)I" } : Jvm.MethodName)) ∈ TT := TT_mem 386 (by decide +kernel) rfl
theorem tw_387 : (Jvm.Cond.selects "HammockReach" ({ cls := "HammockReach", name := "ahead", desc := "(III)I" } : Jvm.MethodName) ({ cls := "HammockReach", name := "ahead", desc := "(III)I" } : Jvm.MethodName)) ∈ TT := TT_mem 387 (by decide +kernel) rfl
theorem tw_388 : (Jvm.Cond.code ({ cls := "HammockReach", name := "ahead", desc := "(III)I" } : Jvm.MethodName) prog_1_method_15_code (5 : Nat) (Option.some Jvm.ClassFile.FieldType.int)) ∈ TT := TT_mem 388 (by decide +kernel) rfl
theorem tw_389 : (Jvm.Cond.methodLink "HammockReach" (172 : Nat) ({ cls := "HammockReach", name := "isAhead", desc := "(I)Z" } : Jvm.MethodName)) ∈ TT := TT_mem 389 (by decide +kernel) rfl
theorem tw_390 : (Jvm.Cond.static ({ cls := "HammockReach", name := "isAhead", desc := "(I)Z" } : Jvm.MethodName)) ∈ TT := TT_mem 390 (by decide +kernel) rfl
theorem tw_391 : (Jvm.Cond.code ({ cls := "HammockReach", name := "isAhead", desc := "(I)Z" } : Jvm.MethodName) prog_1_method_36_code (1 : Nat) (Option.some Jvm.ClassFile.FieldType.boolean)) ∈ TT := TT_mem 391 (by decide +kernel) rfl
theorem tw_392 : (Jvm.Cond.methodLink "HammockReachLaw" (74 : Nat) ({ cls := "HammockReach", name := "down", desc := "(I)I" } : Jvm.MethodName)) ∈ TT := TT_mem 392 (by decide +kernel) rfl
theorem tw_393 : (Jvm.Cond.instanceMethod ({ cls := "HammockReach", name := "down", desc := "(I)I" } : Jvm.MethodName)) ∈ TT := TT_mem 393 (by decide +kernel) rfl
theorem tw_394 : (Jvm.Cond.selects "HammockReach" ({ cls := "HammockReach", name := "down", desc := "(I)I" } : Jvm.MethodName) ({ cls := "HammockReach", name := "down", desc := "(I)I" } : Jvm.MethodName)) ∈ TT := TT_mem 394 (by decide +kernel) rfl
theorem tw_395 : (Jvm.Cond.code ({ cls := "HammockReach", name := "down", desc := "(I)I" } : Jvm.MethodName) prog_1_method_16_code (2 : Nat) (Option.some Jvm.ClassFile.FieldType.int)) ∈ TT := TT_mem 395 (by decide +kernel) rfl
theorem tw_396 : (Jvm.Cond.methodLink "HammockReachLaw" (78 : Nat) ({ cls := "HammockReach", name := "reach", desc := "(II)I" } : Jvm.MethodName)) ∈ TT := TT_mem 396 (by decide +kernel) rfl
theorem tw_397 : (Jvm.Cond.instanceMethod ({ cls := "HammockReach", name := "reach", desc := "(II)I" } : Jvm.MethodName)) ∈ TT := TT_mem 397 (by decide +kernel) rfl
theorem tw_398 : (Jvm.Cond.selects "HammockReach" ({ cls := "HammockReach", name := "reach", desc := "(II)I" } : Jvm.MethodName) ({ cls := "HammockReach", name := "reach", desc := "(II)I" } : Jvm.MethodName)) ∈ TT := TT_mem 398 (by decide +kernel) rfl
theorem tw_399 : (Jvm.Cond.code ({ cls := "HammockReach", name := "reach", desc := "(II)I" } : Jvm.MethodName) prog_1_method_17_code (3 : Nat) (Option.some Jvm.ClassFile.FieldType.int)) ∈ TT := TT_mem 399 (by decide +kernel) rfl
theorem tw_400 : (Jvm.Cond.methodLink "HammockReach" (175 : Nat) ({ cls := "HammockReach$Forest", name := "nearBits", desc := "(II)I" } : Jvm.MethodName)) ∈ TT := TT_mem 400 (by decide +kernel) rfl
theorem tw_401 : (Jvm.Cond.instanceMethod ({ cls := "HammockReach$Forest", name := "nearBits", desc := "(II)I" } : Jvm.MethodName)) ∈ TT := TT_mem 401 (by decide +kernel) rfl
theorem tw_402 : (Jvm.Cond.selects "HammockReach$Forest" ({ cls := "HammockReach$Forest", name := "nearBits", desc := "(II)I" } : Jvm.MethodName) ({ cls := "HammockReach$Forest", name := "nearBits", desc := "(II)I" } : Jvm.MethodName)) ∈ TT := TT_mem 402 (by decide +kernel) rfl
theorem tw_403 : (Jvm.Cond.code ({ cls := "HammockReach$Forest", name := "nearBits", desc := "(II)I" } : Jvm.MethodName) prog_3_method_13_code (6 : Nat) (Option.some Jvm.ClassFile.FieldType.int)) ∈ TT := TT_mem 403 (by decide +kernel) rfl
theorem tw_404 : (Jvm.Cond.methodLink "HammockReach$Forest" (80 : Nat) ({ cls := "HammockReach$Forest", name := "spot", desc := "(II)I" } : Jvm.MethodName)) ∈ TT := TT_mem 404 (by decide +kernel) rfl
theorem tw_405 : (Jvm.Cond.instanceMethod ({ cls := "HammockReach$Forest", name := "spot", desc := "(II)I" } : Jvm.MethodName)) ∈ TT := TT_mem 405 (by decide +kernel) rfl
theorem tw_406 : (Jvm.Cond.selects "HammockReach$Forest" ({ cls := "HammockReach$Forest", name := "spot", desc := "(II)I" } : Jvm.MethodName) ({ cls := "HammockReach$Forest", name := "spot", desc := "(II)I" } : Jvm.MethodName)) ∈ TT := TT_mem 406 (by decide +kernel) rfl
theorem tw_407 : (Jvm.Cond.code ({ cls := "HammockReach$Forest", name := "spot", desc := "(II)I" } : Jvm.MethodName) prog_3_method_11_code (3 : Nat) (Option.some Jvm.ClassFile.FieldType.int)) ∈ TT := TT_mem 407 (by decide +kernel) rfl
theorem tw_408 : (Jvm.Cond.methodLink "HammockReach$Forest" (71 : Nat) ({ cls := "HammockReach$Forest", name := "place", desc := "(II)I" } : Jvm.MethodName)) ∈ TT := TT_mem 408 (by decide +kernel) rfl
theorem tw_409 : (Jvm.Cond.methodLink "HammockReach$Forest" (83 : Nat) ({ cls := "HammockReach$Forest", name := "areNear", desc := "(II)Z" } : Jvm.MethodName)) ∈ TT := TT_mem 409 (by decide +kernel) rfl
theorem tw_410 : (Jvm.Cond.instanceMethod ({ cls := "HammockReach$Forest", name := "areNear", desc := "(II)Z" } : Jvm.MethodName)) ∈ TT := TT_mem 410 (by decide +kernel) rfl
theorem tw_411 : (Jvm.Cond.selects "HammockReach$Forest" ({ cls := "HammockReach$Forest", name := "areNear", desc := "(II)Z" } : Jvm.MethodName) ({ cls := "HammockReach$Forest", name := "areNear", desc := "(II)Z" } : Jvm.MethodName)) ∈ TT := TT_mem 411 (by decide +kernel) rfl
theorem tw_412 : (Jvm.Cond.code ({ cls := "HammockReach$Forest", name := "areNear", desc := "(II)Z" } : Jvm.MethodName) prog_3_method_12_code (3 : Nat) (Option.some Jvm.ClassFile.FieldType.boolean)) ∈ TT := TT_mem 412 (by decide +kernel) rfl
theorem tw_413 : (Jvm.Cond.methodLink "HammockReach$Forest" (74 : Nat) ({ cls := "java/lang/Math", name := "abs", desc := "(I)I" } : Jvm.MethodName)) ∈ TT := TT_mem 413 (by decide +kernel) rfl
theorem tw_414 : (Jvm.Cond.static ({ cls := "java/lang/Math", name := "abs", desc := "(I)I" } : Jvm.MethodName)) ∈ TT := TT_mem 414 (by decide +kernel) rfl
theorem tw_415 : (Jvm.Cond.code ({ cls := "java/lang/Math", name := "abs", desc := "(I)I" } : Jvm.MethodName) prog_10_method_59_code (1 : Nat) (Option.some Jvm.ClassFile.FieldType.int)) ∈ TT := TT_mem 415 (by decide +kernel) rfl
theorem tw_416 : (Jvm.Cond.methodLink "HammockReachLaw" (82 : Nat) ({ cls := "HammockReach", name := "meet", desc := "(II)I" } : Jvm.MethodName)) ∈ TT := TT_mem 416 (by decide +kernel) rfl
theorem tw_417 : (Jvm.Cond.instanceMethod ({ cls := "HammockReach", name := "meet", desc := "(II)I" } : Jvm.MethodName)) ∈ TT := TT_mem 417 (by decide +kernel) rfl
theorem tw_418 : (Jvm.Cond.selects "HammockReach" ({ cls := "HammockReach", name := "meet", desc := "(II)I" } : Jvm.MethodName) ({ cls := "HammockReach", name := "meet", desc := "(II)I" } : Jvm.MethodName)) ∈ TT := TT_mem 418 (by decide +kernel) rfl
theorem tw_419 : (Jvm.Cond.code ({ cls := "HammockReach", name := "meet", desc := "(II)I" } : Jvm.MethodName) prog_1_method_18_code (4 : Nat) (Option.some Jvm.ClassFile.FieldType.int)) ∈ TT := TT_mem 419 (by decide +kernel) rfl
theorem tw_420 : (Jvm.Cond.methodLink "HammockReach" (178 : Nat) ({ cls := "HammockReach", name := "areTwo", desc := "(II)Z" } : Jvm.MethodName)) ∈ TT := TT_mem 420 (by decide +kernel) rfl
theorem tw_422 : (Jvm.Cond.instanceMethod ({ cls := "HammockReach", name := "areTwo", desc := "(II)Z" } : Jvm.MethodName)) ∈ TT := TT_mem 422 (by decide +kernel) rfl
theorem tw_423 : (Jvm.Cond.code ({ cls := "HammockReach", name := "areTwo", desc := "(II)Z" } : Jvm.MethodName) prog_1_method_38_code (3 : Nat) (Option.some Jvm.ClassFile.FieldType.boolean)) ∈ TT := TT_mem 423 (by decide +kernel) rfl
theorem tw_424 : (Jvm.Cond.methodLink "HammockReach" (181 : Nat) ({ cls := "HammockReach$Forest", name := "spot", desc := "(II)I" } : Jvm.MethodName)) ∈ TT := TT_mem 424 (by decide +kernel) rfl
theorem tw_425 : (Jvm.Cond.methodLink "HammockReach" (184 : Nat) ({ cls := "HammockReach$Forest", name := "areNear", desc := "(II)Z" } : Jvm.MethodName)) ∈ TT := TT_mem 425 (by decide +kernel) rfl
theorem tw_426 : (Jvm.Cond.constant "HammockReach" (187 : Nat) (-1000000 : Int32)) ∈ TT := TT_mem 426 (by decide +kernel) rfl
theorem tw_427 : (Jvm.Cond.methodLink "HammockReachLaw" (86 : Nat) ({ cls := "HammockReach", name := "soonest", desc := "(II)I" } : Jvm.MethodName)) ∈ TT := TT_mem 427 (by decide +kernel) rfl
theorem tw_428 : (Jvm.Cond.instanceMethod ({ cls := "HammockReach", name := "soonest", desc := "(II)I" } : Jvm.MethodName)) ∈ TT := TT_mem 428 (by decide +kernel) rfl
theorem tw_429 : (Jvm.Cond.selects "HammockReach" ({ cls := "HammockReach", name := "soonest", desc := "(II)I" } : Jvm.MethodName) ({ cls := "HammockReach", name := "soonest", desc := "(II)I" } : Jvm.MethodName)) ∈ TT := TT_mem 429 (by decide +kernel) rfl
theorem tw_430 : (Jvm.Cond.code ({ cls := "HammockReach", name := "soonest", desc := "(II)I" } : Jvm.MethodName) prog_1_method_19_code (3 : Nat) (Option.some Jvm.ClassFile.FieldType.int)) ∈ TT := TT_mem 430 (by decide +kernel) rfl
theorem tw_431 : (Jvm.Cond.methodLink "HammockReach" (188 : Nat) ({ cls := "HammockReach$Outlook", name := "foresee", desc := "(LHammockReach$Forest;I)V" } : Jvm.MethodName)) ∈ TT := TT_mem 431 (by decide +kernel) rfl
theorem tw_432 : (Jvm.Cond.instanceMethod ({ cls := "HammockReach$Outlook", name := "foresee", desc := "(LHammockReach$Forest;I)V" } : Jvm.MethodName)) ∈ TT := TT_mem 432 (by decide +kernel) rfl
theorem tw_433 : (Jvm.Cond.selects "HammockReach$Outlook" ({ cls := "HammockReach$Outlook", name := "foresee", desc := "(LHammockReach$Forest;I)V" } : Jvm.MethodName) ({ cls := "HammockReach$Outlook", name := "foresee", desc := "(LHammockReach$Forest;I)V" } : Jvm.MethodName)) ∈ TT := TT_mem 433 (by decide +kernel) rfl
theorem tw_434 : (Jvm.Cond.code ({ cls := "HammockReach$Outlook", name := "foresee", desc := "(LHammockReach$Forest;I)V" } : Jvm.MethodName) prog_4_method_2_code (6 : Nat) (Option.none : Option Jvm.ClassFile.FieldType)) ∈ TT := TT_mem 434 (by decide +kernel) rfl
theorem tw_435 : (Jvm.Cond.methodLink "HammockReach$Outlook" (31 : Nat) ({ cls := "HammockReach$Forest", name := "spot", desc := "(II)I" } : Jvm.MethodName)) ∈ TT := TT_mem 435 (by decide +kernel) rfl
theorem tw_436 : (Jvm.Cond.methodLink "HammockReach$Outlook" (35 : Nat) ({ cls := "HammockReach$Outlook", name := "link", desc := "(LHammockReach$Forest;II)V" } : Jvm.MethodName)) ∈ TT := TT_mem 436 (by decide +kernel) rfl
theorem tw_438 : (Jvm.Cond.instanceMethod ({ cls := "HammockReach$Outlook", name := "link", desc := "(LHammockReach$Forest;II)V" } : Jvm.MethodName)) ∈ TT := TT_mem 438 (by decide +kernel) rfl
theorem tw_439 : (Jvm.Cond.code ({ cls := "HammockReach$Outlook", name := "link", desc := "(LHammockReach$Forest;II)V" } : Jvm.MethodName) prog_4_method_4_code (6 : Nat) (Option.none : Option Jvm.ClassFile.FieldType)) ∈ TT := TT_mem 439 (by decide +kernel) rfl
theorem tw_440 : (Jvm.Cond.methodLink "HammockReach$Outlook" (39 : Nat) ({ cls := "HammockReach$Forest", name := "areNear", desc := "(II)Z" } : Jvm.MethodName)) ∈ TT := TT_mem 440 (by decide +kernel) rfl
theorem tw_441 : (Jvm.Cond.methodLink "HammockReach" (192 : Nat) ({ cls := "HammockReach$Outlook", name := "arrival", desc := "(IIII)I" } : Jvm.MethodName)) ∈ TT := TT_mem 441 (by decide +kernel) rfl
theorem tw_442 : (Jvm.Cond.instanceMethod ({ cls := "HammockReach$Outlook", name := "arrival", desc := "(IIII)I" } : Jvm.MethodName)) ∈ TT := TT_mem 442 (by decide +kernel) rfl
theorem tw_443 : (Jvm.Cond.selects "HammockReach$Outlook" ({ cls := "HammockReach$Outlook", name := "arrival", desc := "(IIII)I" } : Jvm.MethodName) ({ cls := "HammockReach$Outlook", name := "arrival", desc := "(IIII)I" } : Jvm.MethodName)) ∈ TT := TT_mem 443 (by decide +kernel) rfl
theorem tw_444 : (Jvm.Cond.code ({ cls := "HammockReach$Outlook", name := "arrival", desc := "(IIII)I" } : Jvm.MethodName) prog_4_method_7_code (7 : Nat) (Option.some Jvm.ClassFile.FieldType.int)) ∈ TT := TT_mem 444 (by decide +kernel) rfl
theorem tw_445 : (Jvm.Cond.methodLink "HammockReach$Outlook" (43 : Nat) ({ cls := "HammockReach$Outlook", name := "spread", desc := "(III)I" } : Jvm.MethodName)) ∈ TT := TT_mem 445 (by decide +kernel) rfl
theorem tw_447 : (Jvm.Cond.instanceMethod ({ cls := "HammockReach$Outlook", name := "spread", desc := "(III)I" } : Jvm.MethodName)) ∈ TT := TT_mem 447 (by decide +kernel) rfl
theorem tw_448 : (Jvm.Cond.code ({ cls := "HammockReach$Outlook", name := "spread", desc := "(III)I" } : Jvm.MethodName) prog_4_method_5_code (6 : Nat) (Option.some Jvm.ClassFile.FieldType.int)) ∈ TT := TT_mem 448 (by decide +kernel) rfl
theorem tw_449 : (Jvm.Cond.constant "HammockReach$Outlook" (47 : Nat) (-1000000 : Int32)) ∈ TT := TT_mem 449 (by decide +kernel) rfl
theorem tw_450 : (Jvm.Cond.methodLink "HammockReachLaw" (90 : Nat) ({ cls := "HammockReach", name := "hands", desc := "(II)I" } : Jvm.MethodName)) ∈ TT := TT_mem 450 (by decide +kernel) rfl
theorem tw_451 : (Jvm.Cond.instanceMethod ({ cls := "HammockReach", name := "hands", desc := "(II)I" } : Jvm.MethodName)) ∈ TT := TT_mem 451 (by decide +kernel) rfl
theorem tw_452 : (Jvm.Cond.selects "HammockReach" ({ cls := "HammockReach", name := "hands", desc := "(II)I" } : Jvm.MethodName) ({ cls := "HammockReach", name := "hands", desc := "(II)I" } : Jvm.MethodName)) ∈ TT := TT_mem 452 (by decide +kernel) rfl
theorem tw_453 : (Jvm.Cond.code ({ cls := "HammockReach", name := "hands", desc := "(II)I" } : Jvm.MethodName) prog_1_method_20_code (3 : Nat) (Option.some Jvm.ClassFile.FieldType.int)) ∈ TT := TT_mem 453 (by decide +kernel) rfl
theorem tw_454 : (Jvm.Cond.methodLink "HammockReach" (196 : Nat) ({ cls := "HammockReach$Outlook", name := "fewestHands", desc := "(II)I" } : Jvm.MethodName)) ∈ TT := TT_mem 454 (by decide +kernel) rfl
theorem tw_455 : (Jvm.Cond.instanceMethod ({ cls := "HammockReach$Outlook", name := "fewestHands", desc := "(II)I" } : Jvm.MethodName)) ∈ TT := TT_mem 455 (by decide +kernel) rfl
theorem tw_456 : (Jvm.Cond.selects "HammockReach$Outlook" ({ cls := "HammockReach$Outlook", name := "fewestHands", desc := "(II)I" } : Jvm.MethodName) ({ cls := "HammockReach$Outlook", name := "fewestHands", desc := "(II)I" } : Jvm.MethodName)) ∈ TT := TT_mem 456 (by decide +kernel) rfl
theorem tw_457 : (Jvm.Cond.code ({ cls := "HammockReach$Outlook", name := "fewestHands", desc := "(II)I" } : Jvm.MethodName) prog_4_method_8_code (5 : Nat) (Option.some Jvm.ClassFile.FieldType.int)) ∈ TT := TT_mem 457 (by decide +kernel) rfl
theorem tw_458 : (Jvm.Cond.methodLink "HammockReachLaw" (94 : Nat) ({ cls := "HammockReach", name := "everywhere", desc := "(II)I" } : Jvm.MethodName)) ∈ TT := TT_mem 458 (by decide +kernel) rfl
theorem tw_459 : (Jvm.Cond.instanceMethod ({ cls := "HammockReach", name := "everywhere", desc := "(II)I" } : Jvm.MethodName)) ∈ TT := TT_mem 459 (by decide +kernel) rfl
theorem tw_460 : (Jvm.Cond.selects "HammockReach" ({ cls := "HammockReach", name := "everywhere", desc := "(II)I" } : Jvm.MethodName) ({ cls := "HammockReach", name := "everywhere", desc := "(II)I" } : Jvm.MethodName)) ∈ TT := TT_mem 460 (by decide +kernel) rfl
theorem tw_461 : (Jvm.Cond.code ({ cls := "HammockReach", name := "everywhere", desc := "(II)I" } : Jvm.MethodName) prog_1_method_21_code (3 : Nat) (Option.some Jvm.ClassFile.FieldType.int)) ∈ TT := TT_mem 461 (by decide +kernel) rfl
theorem tw_462 : (Jvm.Cond.methodLink "HammockReach" (199 : Nat) ({ cls := "HammockReach$Outlook", name := "holders", desc := "(II)I" } : Jvm.MethodName)) ∈ TT := TT_mem 462 (by decide +kernel) rfl
theorem tw_463 : (Jvm.Cond.instanceMethod ({ cls := "HammockReach$Outlook", name := "holders", desc := "(II)I" } : Jvm.MethodName)) ∈ TT := TT_mem 463 (by decide +kernel) rfl
theorem tw_464 : (Jvm.Cond.selects "HammockReach$Outlook" ({ cls := "HammockReach$Outlook", name := "holders", desc := "(II)I" } : Jvm.MethodName) ({ cls := "HammockReach$Outlook", name := "holders", desc := "(II)I" } : Jvm.MethodName)) ∈ TT := TT_mem 464 (by decide +kernel) rfl
theorem tw_465 : (Jvm.Cond.code ({ cls := "HammockReach$Outlook", name := "holders", desc := "(II)I" } : Jvm.MethodName) prog_4_method_6_code (5 : Nat) (Option.some Jvm.ClassFile.FieldType.int)) ∈ TT := TT_mem 465 (by decide +kernel) rfl
theorem tw_466 : (Jvm.Cond.methodLink "HammockReachLaw" (98 : Nat) ({ cls := "HammockReach", name := "stops", desc := "(III)I" } : Jvm.MethodName)) ∈ TT := TT_mem 466 (by decide +kernel) rfl
theorem tw_467 : (Jvm.Cond.instanceMethod ({ cls := "HammockReach", name := "stops", desc := "(III)I" } : Jvm.MethodName)) ∈ TT := TT_mem 467 (by decide +kernel) rfl
theorem tw_468 : (Jvm.Cond.selects "HammockReach" ({ cls := "HammockReach", name := "stops", desc := "(III)I" } : Jvm.MethodName) ({ cls := "HammockReach", name := "stops", desc := "(III)I" } : Jvm.MethodName)) ∈ TT := TT_mem 468 (by decide +kernel) rfl
theorem tw_469 : (Jvm.Cond.code ({ cls := "HammockReach", name := "stops", desc := "(III)I" } : Jvm.MethodName) prog_1_method_22_code (6 : Nat) (Option.some Jvm.ClassFile.FieldType.int)) ∈ TT := TT_mem 469 (by decide +kernel) rfl
theorem tw_470 : (Jvm.Cond.methodLink "HammockReachLaw" (102 : Nat) ({ cls := "HammockReach", name := "toSling", desc := "(IIII)I" } : Jvm.MethodName)) ∈ TT := TT_mem 470 (by decide +kernel) rfl
theorem tw_471 : (Jvm.Cond.instanceMethod ({ cls := "HammockReach", name := "toSling", desc := "(IIII)I" } : Jvm.MethodName)) ∈ TT := TT_mem 471 (by decide +kernel) rfl
theorem tw_472 : (Jvm.Cond.selects "HammockReach" ({ cls := "HammockReach", name := "toSling", desc := "(IIII)I" } : Jvm.MethodName) ({ cls := "HammockReach", name := "toSling", desc := "(IIII)I" } : Jvm.MethodName)) ∈ TT := TT_mem 472 (by decide +kernel) rfl
theorem tw_473 : (Jvm.Cond.code ({ cls := "HammockReach", name := "toSling", desc := "(IIII)I" } : Jvm.MethodName) prog_1_method_23_code (10 : Nat) (Option.some Jvm.ClassFile.FieldType.int)) ∈ TT := TT_mem 473 (by decide +kernel) rfl
theorem tw_474 : (Jvm.Cond.methodLink "HammockReach" (202 : Nat) ({ cls := "HammockReach$Outlook", name := "foreseeAnew", desc := "(LHammockReach$Forest;II)V" } : Jvm.MethodName)) ∈ TT := TT_mem 474 (by decide +kernel) rfl
theorem tw_475 : (Jvm.Cond.instanceMethod ({ cls := "HammockReach$Outlook", name := "foreseeAnew", desc := "(LHammockReach$Forest;II)V" } : Jvm.MethodName)) ∈ TT := TT_mem 475 (by decide +kernel) rfl
theorem tw_476 : (Jvm.Cond.selects "HammockReach$Outlook" ({ cls := "HammockReach$Outlook", name := "foreseeAnew", desc := "(LHammockReach$Forest;II)V" } : Jvm.MethodName) ({ cls := "HammockReach$Outlook", name := "foreseeAnew", desc := "(LHammockReach$Forest;II)V" } : Jvm.MethodName)) ∈ TT := TT_mem 476 (by decide +kernel) rfl
theorem tw_477 : (Jvm.Cond.code ({ cls := "HammockReach$Outlook", name := "foreseeAnew", desc := "(LHammockReach$Forest;II)V" } : Jvm.MethodName) prog_4_method_3_code (6 : Nat) (Option.none : Option Jvm.ClassFile.FieldType)) ∈ TT := TT_mem 477 (by decide +kernel) rfl
theorem tw_478 : (Jvm.Cond.methodLink "HammockReachLaw" (107 : Nat) ({ cls := "HammockReach", name := "fits", desc := "(IIIII)I" } : Jvm.MethodName)) ∈ TT := TT_mem 478 (by decide +kernel) rfl
theorem tw_479 : (Jvm.Cond.instanceMethod ({ cls := "HammockReach", name := "fits", desc := "(IIIII)I" } : Jvm.MethodName)) ∈ TT := TT_mem 479 (by decide +kernel) rfl
theorem tw_480 : (Jvm.Cond.selects "HammockReach" ({ cls := "HammockReach", name := "fits", desc := "(IIIII)I" } : Jvm.MethodName) ({ cls := "HammockReach", name := "fits", desc := "(IIIII)I" } : Jvm.MethodName)) ∈ TT := TT_mem 480 (by decide +kernel) rfl
theorem tw_481 : (Jvm.Cond.code ({ cls := "HammockReach", name := "fits", desc := "(IIIII)I" } : Jvm.MethodName) prog_1_method_24_code (7 : Nat) (Option.some Jvm.ClassFile.FieldType.int)) ∈ TT := TT_mem 481 (by decide +kernel) rfl
theorem tw_482 : (Jvm.Cond.methodLink "HammockReach" (206 : Nat) ({ cls := "HammockReach", name := "fittingKinds", desc := "(ILHammockReach$Row;II)I" } : Jvm.MethodName)) ∈ TT := TT_mem 482 (by decide +kernel) rfl
theorem tw_484 : (Jvm.Cond.instanceMethod ({ cls := "HammockReach", name := "fittingKinds", desc := "(ILHammockReach$Row;II)I" } : Jvm.MethodName)) ∈ TT := TT_mem 484 (by decide +kernel) rfl
theorem tw_485 : (Jvm.Cond.code ({ cls := "HammockReach", name := "fittingKinds", desc := "(ILHammockReach$Row;II)I" } : Jvm.MethodName) prog_1_method_41_code (7 : Nat) (Option.some Jvm.ClassFile.FieldType.int)) ∈ TT := TT_mem 485 (by decide +kernel) rfl
theorem tw_486 : (Jvm.Cond.methodLink "HammockReach" (254 : Nat) ({ cls := "HammockReach", name := "wasThere", desc := "(ILHammockReach$Row;II)Z" } : Jvm.MethodName)) ∈ TT := TT_mem 486 (by decide +kernel) rfl
theorem tw_488 : (Jvm.Cond.instanceMethod ({ cls := "HammockReach", name := "wasThere", desc := "(ILHammockReach$Row;II)Z" } : Jvm.MethodName)) ∈ TT := TT_mem 488 (by decide +kernel) rfl
theorem tw_489 : (Jvm.Cond.code ({ cls := "HammockReach", name := "wasThere", desc := "(ILHammockReach$Row;II)Z" } : Jvm.MethodName) prog_1_method_44_code (6 : Nat) (Option.some Jvm.ClassFile.FieldType.boolean)) ∈ TT := TT_mem 489 (by decide +kernel) rfl
theorem tw_490 : (Jvm.Cond.methodLink "HammockReach" (210 : Nat) ({ cls := "HammockReach", name := "fittingSwings", desc := "(ILHammockReach$Row;II)I" } : Jvm.MethodName)) ∈ TT := TT_mem 490 (by decide +kernel) rfl
theorem tw_492 : (Jvm.Cond.instanceMethod ({ cls := "HammockReach", name := "fittingSwings", desc := "(ILHammockReach$Row;II)I" } : Jvm.MethodName)) ∈ TT := TT_mem 492 (by decide +kernel) rfl
theorem tw_493 : (Jvm.Cond.code ({ cls := "HammockReach", name := "fittingSwings", desc := "(ILHammockReach$Row;II)I" } : Jvm.MethodName) prog_1_method_42_code (7 : Nat) (Option.some Jvm.ClassFile.FieldType.int)) ∈ TT := TT_mem 493 (by decide +kernel) rfl
theorem tw_494 : (Jvm.Cond.methodLink "HammockReach" (213 : Nat) ({ cls := "HammockReach", name := "fittingWeights", desc := "(ILHammockReach$Row;II)I" } : Jvm.MethodName)) ∈ TT := TT_mem 494 (by decide +kernel) rfl
theorem tw_496 : (Jvm.Cond.instanceMethod ({ cls := "HammockReach", name := "fittingWeights", desc := "(ILHammockReach$Row;II)I" } : Jvm.MethodName)) ∈ TT := TT_mem 496 (by decide +kernel) rfl
theorem tw_497 : (Jvm.Cond.code ({ cls := "HammockReach", name := "fittingWeights", desc := "(ILHammockReach$Row;II)I" } : Jvm.MethodName) prog_1_method_43_code (7 : Nat) (Option.some Jvm.ClassFile.FieldType.int)) ∈ TT := TT_mem 497 (by decide +kernel) rfl
theorem tw_498 : (Jvm.Cond.methodLink "HammockReach" (258 : Nat) ({ cls := "HammockReach", name := "wasReached", desc := "(ILHammockReach$Row;II)Z" } : Jvm.MethodName)) ∈ TT := TT_mem 498 (by decide +kernel) rfl
theorem tw_500 : (Jvm.Cond.instanceMethod ({ cls := "HammockReach", name := "wasReached", desc := "(ILHammockReach$Row;II)Z" } : Jvm.MethodName)) ∈ TT := TT_mem 500 (by decide +kernel) rfl
theorem tw_501 : (Jvm.Cond.code ({ cls := "HammockReach", name := "wasReached", desc := "(ILHammockReach$Row;II)Z" } : Jvm.MethodName) prog_1_method_45_code (6 : Nat) (Option.some Jvm.ClassFile.FieldType.boolean)) ∈ TT := TT_mem 501 (by decide +kernel) rfl
theorem tw_502 : (Jvm.Cond.methodLink "HammockReachLaw" (111 : Nat) ({ cls := "HammockReach", name := "breaks", desc := "(IIIII)I" } : Jvm.MethodName)) ∈ TT := TT_mem 502 (by decide +kernel) rfl
theorem tw_503 : (Jvm.Cond.instanceMethod ({ cls := "HammockReach", name := "breaks", desc := "(IIIII)I" } : Jvm.MethodName)) ∈ TT := TT_mem 503 (by decide +kernel) rfl
theorem tw_504 : (Jvm.Cond.selects "HammockReach" ({ cls := "HammockReach", name := "breaks", desc := "(IIIII)I" } : Jvm.MethodName) ({ cls := "HammockReach", name := "breaks", desc := "(IIIII)I" } : Jvm.MethodName)) ∈ TT := TT_mem 504 (by decide +kernel) rfl
theorem tw_505 : (Jvm.Cond.code ({ cls := "HammockReach", name := "breaks", desc := "(IIIII)I" } : Jvm.MethodName) prog_1_method_25_code (9 : Nat) (Option.some Jvm.ClassFile.FieldType.int)) ∈ TT := TT_mem 505 (by decide +kernel) rfl
theorem tw_506 : (Jvm.Cond.methodLink "HammockReach" (216 : Nat) ({ cls := "HammockReach", name := "partsOf", desc := "(II)I" } : Jvm.MethodName)) ∈ TT := TT_mem 506 (by decide +kernel) rfl
theorem tw_508 : (Jvm.Cond.instanceMethod ({ cls := "HammockReach", name := "partsOf", desc := "(II)I" } : Jvm.MethodName)) ∈ TT := TT_mem 508 (by decide +kernel) rfl
theorem tw_509 : (Jvm.Cond.code ({ cls := "HammockReach", name := "partsOf", desc := "(II)I" } : Jvm.MethodName) prog_1_method_46_code (5 : Nat) (Option.some Jvm.ClassFile.FieldType.int)) ∈ TT := TT_mem 509 (by decide +kernel) rfl
theorem tw_510 : (Jvm.Cond.methodLink "HammockReach" (219 : Nat) ({ cls := "HammockReach", name := "partsOfAll", desc := "()I" } : Jvm.MethodName)) ∈ TT := TT_mem 510 (by decide +kernel) rfl
theorem tw_512 : (Jvm.Cond.instanceMethod ({ cls := "HammockReach", name := "partsOfAll", desc := "()I" } : Jvm.MethodName)) ∈ TT := TT_mem 512 (by decide +kernel) rfl
theorem tw_513 : (Jvm.Cond.code ({ cls := "HammockReach", name := "partsOfAll", desc := "()I" } : Jvm.MethodName) prog_1_method_47_code (3 : Nat) (Option.some Jvm.ClassFile.FieldType.int)) ∈ TT := TT_mem 513 (by decide +kernel) rfl
theorem tw_514 : (Jvm.Cond.methodLink "HammockReach" (223 : Nat) ({ cls := "HammockReach", name := "commonDivisor", desc := "(II)I" } : Jvm.MethodName)) ∈ TT := TT_mem 514 (by decide +kernel) rfl
theorem tw_515 : (Jvm.Cond.static ({ cls := "HammockReach", name := "commonDivisor", desc := "(II)I" } : Jvm.MethodName)) ∈ TT := TT_mem 515 (by decide +kernel) rfl
theorem tw_516 : (Jvm.Cond.code ({ cls := "HammockReach", name := "commonDivisor", desc := "(II)I" } : Jvm.MethodName) prog_1_method_48_code (6 : Nat) (Option.some Jvm.ClassFile.FieldType.int)) ∈ TT := TT_mem 516 (by decide +kernel) rfl
theorem tw_517 : (Jvm.Cond.methodLink "HammockReachLaw" (115 : Nat) ({ cls := "HammockReach", name := "image", desc := "(I)I" } : Jvm.MethodName)) ∈ TT := TT_mem 517 (by decide +kernel) rfl
theorem tw_518 : (Jvm.Cond.instanceMethod ({ cls := "HammockReach", name := "image", desc := "(I)I" } : Jvm.MethodName)) ∈ TT := TT_mem 518 (by decide +kernel) rfl
theorem tw_519 : (Jvm.Cond.selects "HammockReach" ({ cls := "HammockReach", name := "image", desc := "(I)I" } : Jvm.MethodName) ({ cls := "HammockReach", name := "image", desc := "(I)I" } : Jvm.MethodName)) ∈ TT := TT_mem 519 (by decide +kernel) rfl
theorem tw_520 : (Jvm.Cond.code ({ cls := "HammockReach", name := "image", desc := "(I)I" } : Jvm.MethodName) prog_1_method_26_code (2 : Nat) (Option.some Jvm.ClassFile.FieldType.int)) ∈ TT := TT_mem 520 (by decide +kernel) rfl
theorem tw_521 : (Jvm.Cond.methodLink "HammockReachLaw" (119 : Nat) ({ cls := "HammockReach", name := "restore", desc := "(I)I" } : Jvm.MethodName)) ∈ TT := TT_mem 521 (by decide +kernel) rfl
theorem tw_522 : (Jvm.Cond.instanceMethod ({ cls := "HammockReach", name := "restore", desc := "(I)I" } : Jvm.MethodName)) ∈ TT := TT_mem 522 (by decide +kernel) rfl
theorem tw_523 : (Jvm.Cond.selects "HammockReach" ({ cls := "HammockReach", name := "restore", desc := "(I)I" } : Jvm.MethodName) ({ cls := "HammockReach", name := "restore", desc := "(I)I" } : Jvm.MethodName)) ∈ TT := TT_mem 523 (by decide +kernel) rfl
theorem tw_524 : (Jvm.Cond.code ({ cls := "HammockReach", name := "restore", desc := "(I)I" } : Jvm.MethodName) prog_1_method_27_code (2 : Nat) (Option.some Jvm.ClassFile.FieldType.int)) ∈ TT := TT_mem 524 (by decide +kernel) rfl
theorem tw_525 : (Jvm.Cond.methodLink "HammockReachLaw" (123 : Nat) ({ cls := "HammockReach", name := "kind", desc := "(I)I" } : Jvm.MethodName)) ∈ TT := TT_mem 525 (by decide +kernel) rfl
theorem tw_526 : (Jvm.Cond.instanceMethod ({ cls := "HammockReach", name := "kind", desc := "(I)I" } : Jvm.MethodName)) ∈ TT := TT_mem 526 (by decide +kernel) rfl
theorem tw_527 : (Jvm.Cond.selects "HammockReach" ({ cls := "HammockReach", name := "kind", desc := "(I)I" } : Jvm.MethodName) ({ cls := "HammockReach", name := "kind", desc := "(I)I" } : Jvm.MethodName)) ∈ TT := TT_mem 527 (by decide +kernel) rfl
theorem tw_528 : (Jvm.Cond.code ({ cls := "HammockReach", name := "kind", desc := "(I)I" } : Jvm.MethodName) prog_1_method_28_code (2 : Nat) (Option.some Jvm.ClassFile.FieldType.int)) ∈ TT := TT_mem 528 (by decide +kernel) rfl
theorem tw_529 : (Jvm.Cond.methodLink "HammockReachLaw" (127 : Nat) ({ cls := "HammockReach", name := "as", desc := "(II)I" } : Jvm.MethodName)) ∈ TT := TT_mem 529 (by decide +kernel) rfl
theorem tw_530 : (Jvm.Cond.instanceMethod ({ cls := "HammockReach", name := "as", desc := "(II)I" } : Jvm.MethodName)) ∈ TT := TT_mem 530 (by decide +kernel) rfl
theorem tw_531 : (Jvm.Cond.selects "HammockReach" ({ cls := "HammockReach", name := "as", desc := "(II)I" } : Jvm.MethodName) ({ cls := "HammockReach", name := "as", desc := "(II)I" } : Jvm.MethodName)) ∈ TT := TT_mem 531 (by decide +kernel) rfl
theorem tw_532 : (Jvm.Cond.code ({ cls := "HammockReach", name := "as", desc := "(II)I" } : Jvm.MethodName) prog_1_method_29_code (3 : Nat) (Option.some Jvm.ClassFile.FieldType.int)) ∈ TT := TT_mem 532 (by decide +kernel) rfl
theorem tw_533 : (Jvm.Cond.methodLink "HammockReach" (229 : Nat) ({ cls := "HammockReach", name := "isOfKind", desc := "(II)Z" } : Jvm.MethodName)) ∈ TT := TT_mem 533 (by decide +kernel) rfl
theorem tw_534 : (Jvm.Cond.static ({ cls := "HammockReach", name := "isOfKind", desc := "(II)Z" } : Jvm.MethodName)) ∈ TT := TT_mem 534 (by decide +kernel) rfl
theorem tw_535 : (Jvm.Cond.code ({ cls := "HammockReach", name := "isOfKind", desc := "(II)Z" } : Jvm.MethodName) prog_1_method_49_code (4 : Nat) (Option.some Jvm.ClassFile.FieldType.boolean)) ∈ TT := TT_mem 535 (by decide +kernel) rfl
theorem tw_536 : (Jvm.Cond.fieldLink "HammockReach" (261 : Nat) "HammockReach" "ABOVE" "[I") ∈ TT := TT_mem 536 (by decide +kernel) rfl
theorem tw_538 : (Jvm.Cond.methodLink "HammockReachLaw" (131 : Nat) ({ cls := "HammockReach", name := "ask", desc := "(II)I" } : Jvm.MethodName)) ∈ TT := TT_mem 538 (by decide +kernel) rfl
theorem tw_539 : (Jvm.Cond.instanceMethod ({ cls := "HammockReach", name := "ask", desc := "(II)I" } : Jvm.MethodName)) ∈ TT := TT_mem 539 (by decide +kernel) rfl
theorem tw_540 : (Jvm.Cond.selects "HammockReach" ({ cls := "HammockReach", name := "ask", desc := "(II)I" } : Jvm.MethodName) ({ cls := "HammockReach", name := "ask", desc := "(II)I" } : Jvm.MethodName)) ∈ TT := TT_mem 540 (by decide +kernel) rfl
theorem tw_541 : (Jvm.Cond.code ({ cls := "HammockReach", name := "ask", desc := "(II)I" } : Jvm.MethodName) prog_1_method_30_code (3 : Nat) (Option.some Jvm.ClassFile.FieldType.int)) ∈ TT := TT_mem 541 (by decide +kernel) rfl
theorem tw_542 : (Jvm.Cond.methodLink "HammockReach" (235 : Nat) ({ cls := "HammockReach", name := "answer", desc := "(III)I" } : Jvm.MethodName)) ∈ TT := TT_mem 542 (by decide +kernel) rfl
theorem tw_544 : (Jvm.Cond.instanceMethod ({ cls := "HammockReach", name := "answer", desc := "(III)I" } : Jvm.MethodName)) ∈ TT := TT_mem 544 (by decide +kernel) rfl
theorem tw_545 : (Jvm.Cond.code ({ cls := "HammockReach", name := "answer", desc := "(III)I" } : Jvm.MethodName) prog_1_method_51_code (4 : Nat) (Option.some Jvm.ClassFile.FieldType.int)) ∈ TT := TT_mem 545 (by decide +kernel) rfl
theorem tw_546 : (Jvm.Cond.methodLink "HammockReach" (270 : Nat) ({ cls := "HammockReach", name := "nearestBody", desc := "(II)I" } : Jvm.MethodName)) ∈ TT := TT_mem 546 (by decide +kernel) rfl
theorem tw_547 : (Jvm.Cond.static ({ cls := "HammockReach", name := "nearestBody", desc := "(II)I" } : Jvm.MethodName)) ∈ TT := TT_mem 547 (by decide +kernel) rfl
theorem tw_548 : (Jvm.Cond.code ({ cls := "HammockReach", name := "nearestBody", desc := "(II)I" } : Jvm.MethodName) prog_1_method_50_code (5 : Nat) (Option.some Jvm.ClassFile.FieldType.int)) ∈ TT := TT_mem 548 (by decide +kernel) rfl
theorem tw_549 : (Jvm.Cond.fieldLink "HammockReach" (264 : Nat) "HammockReach" "SIZE_BODIES" "[I") ∈ TT := TT_mem 549 (by decide +kernel) rfl
theorem tw_551 : (Jvm.Cond.fieldLink "HammockReach" (267 : Nat) "HammockReach" "MARK_BODIES" "[I") ∈ TT := TT_mem 551 (by decide +kernel) rfl
theorem tw_553 : (Jvm.Cond.methodLink "HammockReach" (273 : Nat) ({ cls := "HammockReach", name := "body", desc := "(III)I" } : Jvm.MethodName)) ∈ TT := TT_mem 553 (by decide +kernel) rfl
theorem tw_555 : (Jvm.Cond.instanceMethod ({ cls := "HammockReach", name := "body", desc := "(III)I" } : Jvm.MethodName)) ∈ TT := TT_mem 555 (by decide +kernel) rfl
theorem tw_556 : (Jvm.Cond.code ({ cls := "HammockReach", name := "body", desc := "(III)I" } : Jvm.MethodName) prog_1_method_52_code (5 : Nat) (Option.some Jvm.ClassFile.FieldType.int)) ∈ TT := TT_mem 556 (by decide +kernel) rfl
theorem tw_557 : (Jvm.Cond.methodLink "HammockReachLaw" (135 : Nat) ({ cls := "HammockReach", name := "trace", desc := "(I)I" } : Jvm.MethodName)) ∈ TT := TT_mem 557 (by decide +kernel) rfl
theorem tw_558 : (Jvm.Cond.instanceMethod ({ cls := "HammockReach", name := "trace", desc := "(I)I" } : Jvm.MethodName)) ∈ TT := TT_mem 558 (by decide +kernel) rfl
theorem tw_559 : (Jvm.Cond.selects "HammockReach" ({ cls := "HammockReach", name := "trace", desc := "(I)I" } : Jvm.MethodName) ({ cls := "HammockReach", name := "trace", desc := "(I)I" } : Jvm.MethodName)) ∈ TT := TT_mem 559 (by decide +kernel) rfl
theorem tw_560 : (Jvm.Cond.code ({ cls := "HammockReach", name := "trace", desc := "(I)I" } : Jvm.MethodName) prog_1_method_31_code (2 : Nat) (Option.some Jvm.ClassFile.FieldType.int)) ∈ TT := TT_mem 560 (by decide +kernel) rfl
theorem tw_561 : (Jvm.Cond.methodLink "HammockReachLaw" (139 : Nat) ({ cls := "HammockReach", name := "count", desc := "(I)I" } : Jvm.MethodName)) ∈ TT := TT_mem 561 (by decide +kernel) rfl
theorem tw_562 : (Jvm.Cond.instanceMethod ({ cls := "HammockReach", name := "count", desc := "(I)I" } : Jvm.MethodName)) ∈ TT := TT_mem 562 (by decide +kernel) rfl
theorem tw_563 : (Jvm.Cond.selects "HammockReach" ({ cls := "HammockReach", name := "count", desc := "(I)I" } : Jvm.MethodName) ({ cls := "HammockReach", name := "count", desc := "(I)I" } : Jvm.MethodName)) ∈ TT := TT_mem 563 (by decide +kernel) rfl
theorem tw_564 : (Jvm.Cond.code ({ cls := "HammockReach", name := "count", desc := "(I)I" } : Jvm.MethodName) prog_1_method_32_code (2 : Nat) (Option.some Jvm.ClassFile.FieldType.int)) ∈ TT := TT_mem 564 (by decide +kernel) rfl
theorem tw_565 : (Jvm.Cond.methodLink "HammockReach" (239 : Nat) ({ cls := "HammockReach", name := "countRows", desc := "()I" } : Jvm.MethodName)) ∈ TT := TT_mem 565 (by decide +kernel) rfl
theorem tw_567 : (Jvm.Cond.instanceMethod ({ cls := "HammockReach", name := "countRows", desc := "()I" } : Jvm.MethodName)) ∈ TT := TT_mem 567 (by decide +kernel) rfl
theorem tw_568 : (Jvm.Cond.code ({ cls := "HammockReach", name := "countRows", desc := "()I" } : Jvm.MethodName) prog_1_method_40_code (3 : Nat) (Option.some Jvm.ClassFile.FieldType.int)) ∈ TT := TT_mem 568 (by decide +kernel) rfl
theorem tw_569 : (Jvm.Cond.methodLink "HammockReach" (248 : Nat) ({ cls := "java/lang/Integer", name := "bitCount", desc := "(I)I" } : Jvm.MethodName)) ∈ TT := TT_mem 569 (by decide +kernel) rfl
theorem tw_570 : (Jvm.Cond.static ({ cls := "java/lang/Integer", name := "bitCount", desc := "(I)I" } : Jvm.MethodName)) ∈ TT := TT_mem 570 (by decide +kernel) rfl
theorem tw_571 : (Jvm.Cond.code ({ cls := "java/lang/Integer", name := "bitCount", desc := "(I)I" } : Jvm.MethodName) prog_9_method_49_code (1 : Nat) (Option.some Jvm.ClassFile.FieldType.int)) ∈ TT := TT_mem 571 (by decide +kernel) rfl
theorem tw_572 : (Jvm.Cond.constant "java/lang/Integer" (265 : Nat) (1431655765 : Int32)) ∈ TT := TT_mem 572 (by decide +kernel) rfl
theorem tw_573 : (Jvm.Cond.constant "java/lang/Integer" (266 : Nat) (858993459 : Int32)) ∈ TT := TT_mem 573 (by decide +kernel) rfl
theorem tw_574 : (Jvm.Cond.constant "java/lang/Integer" (267 : Nat) (252645135 : Int32)) ∈ TT := TT_mem 574 (by decide +kernel) rfl
theorem tw_575 : (Jvm.Cond.methodLink "HammockReachLaw" (143 : Nat) ({ cls := "HammockReach", name := "status", desc := "()I" } : Jvm.MethodName)) ∈ TT := TT_mem 575 (by decide +kernel) rfl
theorem tw_576 : (Jvm.Cond.instanceMethod ({ cls := "HammockReach", name := "status", desc := "()I" } : Jvm.MethodName)) ∈ TT := TT_mem 576 (by decide +kernel) rfl
theorem tw_577 : (Jvm.Cond.selects "HammockReach" ({ cls := "HammockReach", name := "status", desc := "()I" } : Jvm.MethodName) ({ cls := "HammockReach", name := "status", desc := "()I" } : Jvm.MethodName)) ∈ TT := TT_mem 577 (by decide +kernel) rfl
theorem tw_578 : (Jvm.Cond.code ({ cls := "HammockReach", name := "status", desc := "()I" } : Jvm.MethodName) prog_1_method_33_code (1 : Nat) (Option.some Jvm.ClassFile.FieldType.int)) ∈ TT := TT_mem 578 (by decide +kernel) rfl
theorem tw_579 : (Jvm.Cond.classLink "HammockReachLaw" (10 : Nat) "HammockReachModel") ∈ TT := TT_mem 579 (by decide +kernel) rfl
theorem tw_580 : (Jvm.Cond.instantiable "HammockReachModel" (23 : Nat)) ∈ TT := TT_mem 580 (by decide +kernel) rfl
theorem tw_581 : (Jvm.Cond.methodLink "HammockReachLaw" (12 : Nat) ({ cls := "HammockReachModel", name := "<init>", desc := "()V" } : Jvm.MethodName)) ∈ TT := TT_mem 581 (by decide +kernel) rfl
theorem tw_582 : (Jvm.Cond.instanceMethod ({ cls := "HammockReachModel", name := "<init>", desc := "()V" } : Jvm.MethodName)) ∈ TT := TT_mem 582 (by decide +kernel) rfl
theorem tw_583 : (Jvm.Cond.code ({ cls := "HammockReachModel", name := "<init>", desc := "()V" } : Jvm.MethodName) prog_8_method_1_code (2 : Nat) (Option.none : Option Jvm.ClassFile.FieldType)) ∈ TT := TT_mem 583 (by decide +kernel) rfl
theorem tw_584 : (Jvm.Cond.methodLink "HammockReachModel" (1 : Nat) ({ cls := "java/lang/Object", name := "<init>", desc := "()V" } : Jvm.MethodName)) ∈ TT := TT_mem 584 (by decide +kernel) rfl
theorem tw_585 : (Jvm.Cond.fieldLink "HammockReachModel" (7 : Nat) "HammockReachModel" "lanes" "[I") ∈ TT := TT_mem 585 (by decide +kernel) rfl
theorem tw_586 : (Jvm.Cond.fieldLink "HammockReachModel" (13 : Nat) "HammockReachModel" "sizes" "[I") ∈ TT := TT_mem 586 (by decide +kernel) rfl
theorem tw_587 : (Jvm.Cond.fieldLink "HammockReachModel" (16 : Nat) "HammockReachModel" "items" "[I") ∈ TT := TT_mem 587 (by decide +kernel) rfl
theorem tw_588 : (Jvm.Cond.fieldLink "HammockReachModel" (50 : Nat) "HammockReachModel" "status" "I") ∈ TT := TT_mem 588 (by decide +kernel) rfl
theorem tw_589 : (Jvm.Cond.fieldLink "HammockReachModel" (19 : Nat) "HammockReachModel" "now" "[I") ∈ TT := TT_mem 589 (by decide +kernel) rfl
theorem tw_590 : (Jvm.Cond.fieldLink "HammockReachModel" (22 : Nat) "HammockReachModel" "read" "[I") ∈ TT := TT_mem 590 (by decide +kernel) rfl
theorem tw_591 : (Jvm.Cond.fieldLink "HammockReachModel" (25 : Nat) "HammockReachModel" "aside" "[I") ∈ TT := TT_mem 591 (by decide +kernel) rfl
theorem tw_592 : (Jvm.Cond.fieldLink "HammockReachModel" (28 : Nat) "HammockReachModel" "past" "[I") ∈ TT := TT_mem 592 (by decide +kernel) rfl
theorem tw_593 : (Jvm.Cond.fieldLink "HammockReachModel" (136 : Nat) "HammockReachModel" "acts" "I") ∈ TT := TT_mem 593 (by decide +kernel) rfl
theorem tw_594 : (Jvm.Cond.fieldLink "HammockReachModel" (31 : Nat) "HammockReachModel" "images" "[I") ∈ TT := TT_mem 594 (by decide +kernel) rfl
theorem tw_595 : (Jvm.Cond.fieldLink "HammockReachModel" (34 : Nat) "HammockReachModel" "kept" "[Z") ∈ TT := TT_mem 595 (by decide +kernel) rfl
theorem tw_596 : (Jvm.Cond.fieldLink "HammockReachModel" (38 : Nat) "HammockReachModel" "tape" "[I") ∈ TT := TT_mem 596 (by decide +kernel) rfl
theorem tw_597 : (Jvm.Cond.fieldLink "HammockReachModel" (77 : Nat) "HammockReachModel" "size" "I") ∈ TT := TT_mem 597 (by decide +kernel) rfl
theorem tw_598 : (Jvm.Cond.fieldLink "HammockReachModel" (128 : Nat) "HammockReachModel" "fault" "I") ∈ TT := TT_mem 598 (by decide +kernel) rfl
theorem tw_599 : (Jvm.Cond.fieldLink "HammockReachModel" (41 : Nat) "HammockReachModel" "trace" "[I") ∈ TT := TT_mem 599 (by decide +kernel) rfl
theorem tw_600 : (Jvm.Cond.fieldLink "HammockReachModel" (218 : Nat) "HammockReachModel" "traced" "I") ∈ TT := TT_mem 600 (by decide +kernel) rfl
theorem tw_601 : (Jvm.Cond.fieldLink "HammockReachModel" (81 : Nat) "HammockReachModel" "at" "I") ∈ TT := TT_mem 601 (by decide +kernel) rfl
theorem tw_602 : (Jvm.Cond.fieldLink "HammockReachModel" (84 : Nat) "HammockReachModel" "begin" "I") ∈ TT := TT_mem 602 (by decide +kernel) rfl
theorem tw_603 : (Jvm.Cond.fieldLink "HammockReachModel" (102 : Nat) "HammockReachModel" "token" "I") ∈ TT := TT_mem 603 (by decide +kernel) rfl
theorem tw_604 : (Jvm.Cond.fieldLink "HammockReachModel" (91 : Nat) "HammockReachModel" "value" "I") ∈ TT := TT_mem 604 (by decide +kernel) rfl
theorem tw_605 : (Jvm.Cond.fieldLink "HammockReachModel" (105 : Nat) "HammockReachModel" "wrong" "I") ∈ TT := TT_mem 605 (by decide +kernel) rfl
theorem tw_606 : (Jvm.Cond.fieldLink "HammockReachModel" (44 : Nat) "HammockReachModel" "given" "[I") ∈ TT := TT_mem 606 (by decide +kernel) rfl
theorem tw_607 : (Jvm.Cond.fieldLink "HammockReachModel" (47 : Nat) "HammockReachModel" "then" "[I") ∈ TT := TT_mem 607 (by decide +kernel) rfl
theorem tw_655 : (Jvm.Cond.arrayClass Jvm.ClassFile.FieldType.boolean) ∈ TT := TT_mem 655 (by decide +kernel) rfl
theorem tw_656 : (Jvm.Cond.methodLink "HammockReachLaw" (17 : Nat) ({ cls := "HammockReachModel", name := "row", desc := "(III)I" } : Jvm.MethodName)) ∈ TT := TT_mem 656 (by decide +kernel) rfl
theorem tw_657 : (Jvm.Cond.instanceMethod ({ cls := "HammockReachModel", name := "row", desc := "(III)I" } : Jvm.MethodName)) ∈ TT := TT_mem 657 (by decide +kernel) rfl
theorem tw_658 : (Jvm.Cond.selects "HammockReachModel" ({ cls := "HammockReachModel", name := "row", desc := "(III)I" } : Jvm.MethodName) ({ cls := "HammockReachModel", name := "row", desc := "(III)I" } : Jvm.MethodName)) ∈ TT := TT_mem 658 (by decide +kernel) rfl
theorem tw_659 : (Jvm.Cond.code ({ cls := "HammockReachModel", name := "row", desc := "(III)I" } : Jvm.MethodName) prog_8_method_7_code (5 : Nat) (Option.some Jvm.ClassFile.FieldType.int)) ∈ TT := TT_mem 659 (by decide +kernel) rfl
theorem tw_660 : (Jvm.Cond.methodLink "HammockReachModel" (61 : Nat) ({ cls := "HammockReachModel", name := "isRow", desc := "(I)Z" } : Jvm.MethodName)) ∈ TT := TT_mem 660 (by decide +kernel) rfl
theorem tw_661 : (Jvm.Cond.static ({ cls := "HammockReachModel", name := "isRow", desc := "(I)Z" } : Jvm.MethodName)) ∈ TT := TT_mem 661 (by decide +kernel) rfl
theorem tw_662 : (Jvm.Cond.code ({ cls := "HammockReachModel", name := "isRow", desc := "(I)Z" } : Jvm.MethodName) prog_8_method_6_code (1 : Nat) (Option.some Jvm.ClassFile.FieldType.boolean)) ∈ TT := TT_mem 662 (by decide +kernel) rfl
theorem tw_663 : (Jvm.Cond.constantLong "HammockReachModel" (55 : Nat) (7 : Int64)) ∈ TT := TT_mem 663 (by decide +kernel) rfl
theorem tw_664 : (Jvm.Cond.methodLink "HammockReachModel" (57 : Nat) ({ cls := "HammockReachModel", name := "in", desc := "(JJJ)Z" } : Jvm.MethodName)) ∈ TT := TT_mem 664 (by decide +kernel) rfl
theorem tw_665 : (Jvm.Cond.static ({ cls := "HammockReachModel", name := "in", desc := "(JJJ)Z" } : Jvm.MethodName)) ∈ TT := TT_mem 665 (by decide +kernel) rfl
theorem tw_666 : (Jvm.Cond.code ({ cls := "HammockReachModel", name := "in", desc := "(JJJ)Z" } : Jvm.MethodName) prog_8_method_3_code (6 : Nat) (Option.some Jvm.ClassFile.FieldType.boolean)) ∈ TT := TT_mem 666 (by decide +kernel) rfl
theorem tw_667 : (Jvm.Cond.constantLong "HammockReachModel" (65 : Nat) (2 : Int64)) ∈ TT := TT_mem 667 (by decide +kernel) rfl
theorem tw_668 : (Jvm.Cond.constant "HammockReachModel" (67 : Nat) (-1000001 : Int32)) ∈ TT := TT_mem 668 (by decide +kernel) rfl
theorem tw_669 : (Jvm.Cond.methodLink "HammockReachModel" (68 : Nat) ({ cls := "HammockReachModel", name := "found", desc := "(I)I" } : Jvm.MethodName)) ∈ TT := TT_mem 669 (by decide +kernel) rfl
theorem tw_671 : (Jvm.Cond.instanceMethod ({ cls := "HammockReachModel", name := "found", desc := "(I)I" } : Jvm.MethodName)) ∈ TT := TT_mem 671 (by decide +kernel) rfl
theorem tw_672 : (Jvm.Cond.code ({ cls := "HammockReachModel", name := "found", desc := "(I)I" } : Jvm.MethodName) prog_8_method_4_code (2 : Nat) (Option.some Jvm.ClassFile.FieldType.int)) ∈ TT := TT_mem 672 (by decide +kernel) rfl
theorem tw_673 : (Jvm.Cond.constant "HammockReachModel" (54 : Nat) (-1000010 : Int32)) ∈ TT := TT_mem 673 (by decide +kernel) rfl
theorem tw_674 : (Jvm.Cond.methodLink "HammockReachModel" (72 : Nat) ({ cls := "HammockReachModel", name := "well", desc := "(I)I" } : Jvm.MethodName)) ∈ TT := TT_mem 674 (by decide +kernel) rfl
theorem tw_676 : (Jvm.Cond.instanceMethod ({ cls := "HammockReachModel", name := "well", desc := "(I)I" } : Jvm.MethodName)) ∈ TT := TT_mem 676 (by decide +kernel) rfl
theorem tw_677 : (Jvm.Cond.code ({ cls := "HammockReachModel", name := "well", desc := "(I)I" } : Jvm.MethodName) prog_8_method_5_code (2 : Nat) (Option.some Jvm.ClassFile.FieldType.int)) ∈ TT := TT_mem 677 (by decide +kernel) rfl
theorem tw_678 : (Jvm.Cond.methodLink "HammockReachLaw" (21 : Nat) ({ cls := "HammockReachModel", name := "set", desc := "(III)I" } : Jvm.MethodName)) ∈ TT := TT_mem 678 (by decide +kernel) rfl
theorem tw_679 : (Jvm.Cond.instanceMethod ({ cls := "HammockReachModel", name := "set", desc := "(III)I" } : Jvm.MethodName)) ∈ TT := TT_mem 679 (by decide +kernel) rfl
theorem tw_680 : (Jvm.Cond.selects "HammockReachModel" ({ cls := "HammockReachModel", name := "set", desc := "(III)I" } : Jvm.MethodName) ({ cls := "HammockReachModel", name := "set", desc := "(III)I" } : Jvm.MethodName)) ∈ TT := TT_mem 680 (by decide +kernel) rfl
theorem tw_681 : (Jvm.Cond.code ({ cls := "HammockReachModel", name := "set", desc := "(III)I" } : Jvm.MethodName) prog_8_method_8_code (4 : Nat) (Option.some Jvm.ClassFile.FieldType.int)) ∈ TT := TT_mem 681 (by decide +kernel) rfl
theorem tw_682 : (Jvm.Cond.methodLink "HammockReachLaw" (26 : Nat) ({ cls := "HammockReachModel", name := "copy", desc := "(IIIII)I" } : Jvm.MethodName)) ∈ TT := TT_mem 682 (by decide +kernel) rfl
theorem tw_683 : (Jvm.Cond.instanceMethod ({ cls := "HammockReachModel", name := "copy", desc := "(IIIII)I" } : Jvm.MethodName)) ∈ TT := TT_mem 683 (by decide +kernel) rfl
theorem tw_684 : (Jvm.Cond.selects "HammockReachModel" ({ cls := "HammockReachModel", name := "copy", desc := "(IIIII)I" } : Jvm.MethodName) ({ cls := "HammockReachModel", name := "copy", desc := "(IIIII)I" } : Jvm.MethodName)) ∈ TT := TT_mem 684 (by decide +kernel) rfl
theorem tw_685 : (Jvm.Cond.code ({ cls := "HammockReachModel", name := "copy", desc := "(IIIII)I" } : Jvm.MethodName) prog_8_method_9_code (8 : Nat) (Option.some Jvm.ClassFile.FieldType.int)) ∈ TT := TT_mem 685 (by decide +kernel) rfl
theorem tw_686 : (Jvm.Cond.methodLink "HammockReachLaw" (31 : Nat) ({ cls := "HammockReachModel", name := "drop", desc := "(I)I" } : Jvm.MethodName)) ∈ TT := TT_mem 686 (by decide +kernel) rfl
theorem tw_687 : (Jvm.Cond.instanceMethod ({ cls := "HammockReachModel", name := "drop", desc := "(I)I" } : Jvm.MethodName)) ∈ TT := TT_mem 687 (by decide +kernel) rfl
theorem tw_688 : (Jvm.Cond.selects "HammockReachModel" ({ cls := "HammockReachModel", name := "drop", desc := "(I)I" } : Jvm.MethodName) ({ cls := "HammockReachModel", name := "drop", desc := "(I)I" } : Jvm.MethodName)) ∈ TT := TT_mem 688 (by decide +kernel) rfl
theorem tw_689 : (Jvm.Cond.code ({ cls := "HammockReachModel", name := "drop", desc := "(I)I" } : Jvm.MethodName) prog_8_method_10_code (3 : Nat) (Option.some Jvm.ClassFile.FieldType.int)) ∈ TT := TT_mem 689 (by decide +kernel) rfl
theorem tw_690 : (Jvm.Cond.methodLink "HammockReachLaw" (35 : Nat) ({ cls := "HammockReachModel", name := "feed", desc := "(I)I" } : Jvm.MethodName)) ∈ TT := TT_mem 690 (by decide +kernel) rfl
theorem tw_691 : (Jvm.Cond.instanceMethod ({ cls := "HammockReachModel", name := "feed", desc := "(I)I" } : Jvm.MethodName)) ∈ TT := TT_mem 691 (by decide +kernel) rfl
theorem tw_692 : (Jvm.Cond.selects "HammockReachModel" ({ cls := "HammockReachModel", name := "feed", desc := "(I)I" } : Jvm.MethodName) ({ cls := "HammockReachModel", name := "feed", desc := "(I)I" } : Jvm.MethodName)) ∈ TT := TT_mem 692 (by decide +kernel) rfl
theorem tw_693 : (Jvm.Cond.code ({ cls := "HammockReachModel", name := "feed", desc := "(I)I" } : Jvm.MethodName) prog_8_method_11_code (2 : Nat) (Option.some Jvm.ClassFile.FieldType.int)) ∈ TT := TT_mem 693 (by decide +kernel) rfl
theorem tw_694 : (Jvm.Cond.constantLong "HammockReachModel" (75 : Nat) (255 : Int64)) ∈ TT := TT_mem 694 (by decide +kernel) rfl
theorem tw_695 : (Jvm.Cond.constant "HammockReachModel" (80 : Nat) (-1000003 : Int32)) ∈ TT := TT_mem 695 (by decide +kernel) rfl
theorem tw_696 : (Jvm.Cond.methodLink "HammockReachLaw" (40 : Nat) ({ cls := "HammockReachModel", name := "forest", desc := "()I" } : Jvm.MethodName)) ∈ TT := TT_mem 696 (by decide +kernel) rfl
theorem tw_697 : (Jvm.Cond.instanceMethod ({ cls := "HammockReachModel", name := "forest", desc := "()I" } : Jvm.MethodName)) ∈ TT := TT_mem 697 (by decide +kernel) rfl
theorem tw_698 : (Jvm.Cond.selects "HammockReachModel" ({ cls := "HammockReachModel", name := "forest", desc := "()I" } : Jvm.MethodName) ({ cls := "HammockReachModel", name := "forest", desc := "()I" } : Jvm.MethodName)) ∈ TT := TT_mem 698 (by decide +kernel) rfl
theorem tw_699 : (Jvm.Cond.code ({ cls := "HammockReachModel", name := "forest", desc := "()I" } : Jvm.MethodName) prog_8_method_19_code (2 : Nat) (Option.some Jvm.ClassFile.FieldType.int)) ∈ TT := TT_mem 699 (by decide +kernel) rfl
theorem tw_700 : (Jvm.Cond.methodLink "HammockReachModel" (125 : Nat) ({ cls := "HammockReachModel", name := "reads", desc := "()Z" } : Jvm.MethodName)) ∈ TT := TT_mem 700 (by decide +kernel) rfl
theorem tw_702 : (Jvm.Cond.instanceMethod ({ cls := "HammockReachModel", name := "reads", desc := "()Z" } : Jvm.MethodName)) ∈ TT := TT_mem 702 (by decide +kernel) rfl
theorem tw_703 : (Jvm.Cond.code ({ cls := "HammockReachModel", name := "reads", desc := "()Z" } : Jvm.MethodName) prog_8_method_18_code (2 : Nat) (Option.some Jvm.ClassFile.FieldType.boolean)) ∈ TT := TT_mem 703 (by decide +kernel) rfl
theorem tw_704 : (Jvm.Cond.methodLink "HammockReachModel" (108 : Nat) ({ cls := "HammockReachModel", name := "step", desc := "()V" } : Jvm.MethodName)) ∈ TT := TT_mem 704 (by decide +kernel) rfl
theorem tw_706 : (Jvm.Cond.instanceMethod ({ cls := "HammockReachModel", name := "step", desc := "()V" } : Jvm.MethodName)) ∈ TT := TT_mem 706 (by decide +kernel) rfl
theorem tw_707 : (Jvm.Cond.code ({ cls := "HammockReachModel", name := "step", desc := "()V" } : Jvm.MethodName) prog_8_method_13_code (1 : Nat) (Option.none : Option Jvm.ClassFile.FieldType)) ∈ TT := TT_mem 707 (by decide +kernel) rfl
theorem tw_708 : (Jvm.Cond.methodLink "HammockReachModel" (87 : Nat) ({ cls := "HammockReachModel", name := "here", desc := "()I" } : Jvm.MethodName)) ∈ TT := TT_mem 708 (by decide +kernel) rfl
theorem tw_710 : (Jvm.Cond.instanceMethod ({ cls := "HammockReachModel", name := "here", desc := "()I" } : Jvm.MethodName)) ∈ TT := TT_mem 710 (by decide +kernel) rfl
theorem tw_711 : (Jvm.Cond.code ({ cls := "HammockReachModel", name := "here", desc := "()I" } : Jvm.MethodName) prog_8_method_12_code (1 : Nat) (Option.some Jvm.ClassFile.FieldType.int)) ∈ TT := TT_mem 711 (by decide +kernel) rfl
theorem tw_712 : (Jvm.Cond.constantLong "HammockReachModel" (94 : Nat) (97 : Int64)) ∈ TT := TT_mem 712 (by decide +kernel) rfl
theorem tw_713 : (Jvm.Cond.constantLong "HammockReachModel" (96 : Nat) (122 : Int64)) ∈ TT := TT_mem 713 (by decide +kernel) rfl
theorem tw_714 : (Jvm.Cond.constantLong "HammockReachModel" (98 : Nat) (48 : Int64)) ∈ TT := TT_mem 714 (by decide +kernel) rfl
theorem tw_715 : (Jvm.Cond.constantLong "HammockReachModel" (100 : Nat) (57 : Int64)) ∈ TT := TT_mem 715 (by decide +kernel) rfl
theorem tw_716 : (Jvm.Cond.methodLink "HammockReachModel" (111 : Nat) ({ cls := "HammockReachModel", name := "fails", desc := "(I)Z" } : Jvm.MethodName)) ∈ TT := TT_mem 716 (by decide +kernel) rfl
theorem tw_718 : (Jvm.Cond.instanceMethod ({ cls := "HammockReachModel", name := "fails", desc := "(I)Z" } : Jvm.MethodName)) ∈ TT := TT_mem 718 (by decide +kernel) rfl
theorem tw_719 : (Jvm.Cond.code ({ cls := "HammockReachModel", name := "fails", desc := "(I)Z" } : Jvm.MethodName) prog_8_method_14_code (2 : Nat) (Option.some Jvm.ClassFile.FieldType.boolean)) ∈ TT := TT_mem 719 (by decide +kernel) rfl
theorem tw_720 : (Jvm.Cond.methodLink "HammockReachModel" (117 : Nat) ({ cls := "HammockReachModel", name := "number", desc := "(IIII)Z" } : Jvm.MethodName)) ∈ TT := TT_mem 720 (by decide +kernel) rfl
theorem tw_722 : (Jvm.Cond.instanceMethod ({ cls := "HammockReachModel", name := "number", desc := "(IIII)Z" } : Jvm.MethodName)) ∈ TT := TT_mem 722 (by decide +kernel) rfl
theorem tw_723 : (Jvm.Cond.code ({ cls := "HammockReachModel", name := "number", desc := "(IIII)Z" } : Jvm.MethodName) prog_8_method_15_code (5 : Nat) (Option.some Jvm.ClassFile.FieldType.boolean)) ∈ TT := TT_mem 723 (by decide +kernel) rfl
theorem tw_724 : (Jvm.Cond.methodLink "HammockReachModel" (121 : Nat) ({ cls := "HammockReachModel", name := "readsHammock", desc := "()Z" } : Jvm.MethodName)) ∈ TT := TT_mem 724 (by decide +kernel) rfl
theorem tw_726 : (Jvm.Cond.instanceMethod ({ cls := "HammockReachModel", name := "readsHammock", desc := "()Z" } : Jvm.MethodName)) ∈ TT := TT_mem 726 (by decide +kernel) rfl
theorem tw_727 : (Jvm.Cond.code ({ cls := "HammockReachModel", name := "readsHammock", desc := "()Z" } : Jvm.MethodName) prog_8_method_17_code (3 : Nat) (Option.some Jvm.ClassFile.FieldType.boolean)) ∈ TT := TT_mem 727 (by decide +kernel) rfl
theorem tw_728 : (Jvm.Cond.methodLink "HammockReachModel" (114 : Nat) ({ cls := "HammockReachModel", name := "sortOf", desc := "(I)I" } : Jvm.MethodName)) ∈ TT := TT_mem 728 (by decide +kernel) rfl
theorem tw_729 : (Jvm.Cond.static ({ cls := "HammockReachModel", name := "sortOf", desc := "(I)I" } : Jvm.MethodName)) ∈ TT := TT_mem 729 (by decide +kernel) rfl
theorem tw_730 : (Jvm.Cond.code ({ cls := "HammockReachModel", name := "sortOf", desc := "(I)I" } : Jvm.MethodName) prog_8_method_16_code (1 : Nat) (Option.some Jvm.ClassFile.FieldType.int)) ∈ TT := TT_mem 730 (by decide +kernel) rfl
theorem tw_731 : (Jvm.Cond.constant "HammockReachModel" (131 : Nat) (-1000100 : Int32)) ∈ TT := TT_mem 731 (by decide +kernel) rfl
theorem tw_732 : (Jvm.Cond.methodLink "HammockReachModel" (132 : Nat) ({ cls := "HammockReachModel", name := "copies", desc := "([II[II)V" } : Jvm.MethodName)) ∈ TT := TT_mem 732 (by decide +kernel) rfl
theorem tw_733 : (Jvm.Cond.static ({ cls := "HammockReachModel", name := "copies", desc := "([II[II)V" } : Jvm.MethodName)) ∈ TT := TT_mem 733 (by decide +kernel) rfl
theorem tw_734 : (Jvm.Cond.code ({ cls := "HammockReachModel", name := "copies", desc := "([II[II)V" } : Jvm.MethodName) prog_8_method_21_code (5 : Nat) (Option.none : Option Jvm.ClassFile.FieldType)) ∈ TT := TT_mem 734 (by decide +kernel) rfl
theorem tw_735 : (Jvm.Cond.methodLink "HammockReachLaw" (44 : Nat) ({ cls := "HammockReachModel", name := "fault", desc := "()I" } : Jvm.MethodName)) ∈ TT := TT_mem 735 (by decide +kernel) rfl
theorem tw_736 : (Jvm.Cond.instanceMethod ({ cls := "HammockReachModel", name := "fault", desc := "()I" } : Jvm.MethodName)) ∈ TT := TT_mem 736 (by decide +kernel) rfl
theorem tw_737 : (Jvm.Cond.selects "HammockReachModel" ({ cls := "HammockReachModel", name := "fault", desc := "()I" } : Jvm.MethodName) ({ cls := "HammockReachModel", name := "fault", desc := "()I" } : Jvm.MethodName)) ∈ TT := TT_mem 737 (by decide +kernel) rfl
theorem tw_738 : (Jvm.Cond.code ({ cls := "HammockReachModel", name := "fault", desc := "()I" } : Jvm.MethodName) prog_8_method_20_code (1 : Nat) (Option.some Jvm.ClassFile.FieldType.int)) ∈ TT := TT_mem 738 (by decide +kernel) rfl
theorem tw_739 : (Jvm.Cond.methodLink "HammockReachLaw" (48 : Nat) ({ cls := "HammockReachModel", name := "minutes", desc := "(I)I" } : Jvm.MethodName)) ∈ TT := TT_mem 739 (by decide +kernel) rfl
theorem tw_740 : (Jvm.Cond.instanceMethod ({ cls := "HammockReachModel", name := "minutes", desc := "(I)I" } : Jvm.MethodName)) ∈ TT := TT_mem 740 (by decide +kernel) rfl
theorem tw_741 : (Jvm.Cond.selects "HammockReachModel" ({ cls := "HammockReachModel", name := "minutes", desc := "(I)I" } : Jvm.MethodName) ({ cls := "HammockReachModel", name := "minutes", desc := "(I)I" } : Jvm.MethodName)) ∈ TT := TT_mem 741 (by decide +kernel) rfl
theorem tw_742 : (Jvm.Cond.code ({ cls := "HammockReachModel", name := "minutes", desc := "(I)I" } : Jvm.MethodName) prog_8_method_37_code (3 : Nat) (Option.some Jvm.ClassFile.FieldType.int)) ∈ TT := TT_mem 742 (by decide +kernel) rfl
theorem tw_743 : (Jvm.Cond.methodLink "HammockReachModel" (168 : Nat) ({ cls := "HammockReachModel", name := "isForest", desc := "()Z" } : Jvm.MethodName)) ∈ TT := TT_mem 743 (by decide +kernel) rfl
theorem tw_745 : (Jvm.Cond.instanceMethod ({ cls := "HammockReachModel", name := "isForest", desc := "()Z" } : Jvm.MethodName)) ∈ TT := TT_mem 745 (by decide +kernel) rfl
theorem tw_746 : (Jvm.Cond.code ({ cls := "HammockReachModel", name := "isForest", desc := "()Z" } : Jvm.MethodName) prog_8_method_32_code (1 : Nat) (Option.some Jvm.ClassFile.FieldType.boolean)) ∈ TT := TT_mem 746 (by decide +kernel) rfl
theorem tw_747 : (Jvm.Cond.constant "HammockReachModel" (171 : Nat) (-1000002 : Int32)) ∈ TT := TT_mem 747 (by decide +kernel) rfl
theorem tw_748 : (Jvm.Cond.constantLong "HammockReachModel" (172 : Nat) (24 : Int64)) ∈ TT := TT_mem 748 (by decide +kernel) rfl
theorem tw_749 : (Jvm.Cond.methodLink "HammockReachModel" (174 : Nat) ({ cls := "HammockReachModel", name := "remember", desc := "()V" } : Jvm.MethodName)) ∈ TT := TT_mem 749 (by decide +kernel) rfl
theorem tw_751 : (Jvm.Cond.instanceMethod ({ cls := "HammockReachModel", name := "remember", desc := "()V" } : Jvm.MethodName)) ∈ TT := TT_mem 751 (by decide +kernel) rfl
theorem tw_752 : (Jvm.Cond.code ({ cls := "HammockReachModel", name := "remember", desc := "()V" } : Jvm.MethodName) prog_8_method_36_code (2 : Nat) (Option.none : Option Jvm.ClassFile.FieldType)) ∈ TT := TT_mem 752 (by decide +kernel) rfl
theorem tw_753 : (Jvm.Cond.methodLink "HammockReachModel" (177 : Nat) ({ cls := "HammockReachModel", name := "downOf", desc := "([II)I" } : Jvm.MethodName)) ∈ TT := TT_mem 753 (by decide +kernel) rfl
theorem tw_754 : (Jvm.Cond.static ({ cls := "HammockReachModel", name := "downOf", desc := "([II)I" } : Jvm.MethodName)) ∈ TT := TT_mem 754 (by decide +kernel) rfl
theorem tw_755 : (Jvm.Cond.code ({ cls := "HammockReachModel", name := "downOf", desc := "([II)I" } : Jvm.MethodName) prog_8_method_27_code (4 : Nat) (Option.some Jvm.ClassFile.FieldType.int)) ∈ TT := TT_mem 755 (by decide +kernel) rfl
theorem tw_756 : (Jvm.Cond.methodLink "HammockReachModel" (151 : Nat) ({ cls := "HammockReachModel", name := "isDown", desc := "([III)Z" } : Jvm.MethodName)) ∈ TT := TT_mem 756 (by decide +kernel) rfl
theorem tw_757 : (Jvm.Cond.static ({ cls := "HammockReachModel", name := "isDown", desc := "([III)Z" } : Jvm.MethodName)) ∈ TT := TT_mem 757 (by decide +kernel) rfl
theorem tw_758 : (Jvm.Cond.code ({ cls := "HammockReachModel", name := "isDown", desc := "([III)Z" } : Jvm.MethodName) prog_8_method_26_code (3 : Nat) (Option.some Jvm.ClassFile.FieldType.boolean)) ∈ TT := TT_mem 758 (by decide +kernel) rfl
theorem tw_759 : (Jvm.Cond.methodLink "HammockReachModel" (143 : Nat) ({ cls := "HammockReachModel", name := "has", desc := "(II)Z" } : Jvm.MethodName)) ∈ TT := TT_mem 759 (by decide +kernel) rfl
theorem tw_760 : (Jvm.Cond.static ({ cls := "HammockReachModel", name := "has", desc := "(II)Z" } : Jvm.MethodName)) ∈ TT := TT_mem 760 (by decide +kernel) rfl
theorem tw_761 : (Jvm.Cond.code ({ cls := "HammockReachModel", name := "has", desc := "(II)Z" } : Jvm.MethodName) prog_8_method_22_code (2 : Nat) (Option.some Jvm.ClassFile.FieldType.boolean)) ∈ TT := TT_mem 761 (by decide +kernel) rfl
theorem tw_762 : (Jvm.Cond.methodLink "HammockReachModel" (147 : Nat) ({ cls := "HammockReachModel", name := "dip", desc := "([III)I" } : Jvm.MethodName)) ∈ TT := TT_mem 762 (by decide +kernel) rfl
theorem tw_763 : (Jvm.Cond.static ({ cls := "HammockReachModel", name := "dip", desc := "([III)I" } : Jvm.MethodName)) ∈ TT := TT_mem 763 (by decide +kernel) rfl
theorem tw_764 : (Jvm.Cond.code ({ cls := "HammockReachModel", name := "dip", desc := "([III)I" } : Jvm.MethodName) prog_8_method_23_code (5 : Nat) (Option.some Jvm.ClassFile.FieldType.int)) ∈ TT := TT_mem 764 (by decide +kernel) rfl
theorem tw_765 : (Jvm.Cond.methodLink "HammockReachLaw" (52 : Nat) ({ cls := "HammockReachModel", name := "sling", desc := "(III)I" } : Jvm.MethodName)) ∈ TT := TT_mem 765 (by decide +kernel) rfl
theorem tw_766 : (Jvm.Cond.instanceMethod ({ cls := "HammockReachModel", name := "sling", desc := "(III)I" } : Jvm.MethodName)) ∈ TT := TT_mem 766 (by decide +kernel) rfl
theorem tw_767 : (Jvm.Cond.selects "HammockReachModel" ({ cls := "HammockReachModel", name := "sling", desc := "(III)I" } : Jvm.MethodName) ({ cls := "HammockReachModel", name := "sling", desc := "(III)I" } : Jvm.MethodName)) ∈ TT := TT_mem 767 (by decide +kernel) rfl
theorem tw_768 : (Jvm.Cond.code ({ cls := "HammockReachModel", name := "sling", desc := "(III)I" } : Jvm.MethodName) prog_8_method_38_code (4 : Nat) (Option.some Jvm.ClassFile.FieldType.int)) ∈ TT := TT_mem 768 (by decide +kernel) rfl
theorem tw_769 : (Jvm.Cond.methodLink "HammockReachModel" (181 : Nat) ({ cls := "HammockReachModel", name := "isHammock", desc := "(I)Z" } : Jvm.MethodName)) ∈ TT := TT_mem 769 (by decide +kernel) rfl
theorem tw_771 : (Jvm.Cond.instanceMethod ({ cls := "HammockReachModel", name := "isHammock", desc := "(I)Z" } : Jvm.MethodName)) ∈ TT := TT_mem 771 (by decide +kernel) rfl
theorem tw_772 : (Jvm.Cond.code ({ cls := "HammockReachModel", name := "isHammock", desc := "(I)Z" } : Jvm.MethodName) prog_8_method_33_code (2 : Nat) (Option.some Jvm.ClassFile.FieldType.boolean)) ∈ TT := TT_mem 772 (by decide +kernel) rfl
theorem tw_773 : (Jvm.Cond.constantLong "HammockReachModel" (184 : Nat) (11 : Int64)) ∈ TT := TT_mem 773 (by decide +kernel) rfl
theorem tw_774 : (Jvm.Cond.methodLink "HammockReachModel" (155 : Nat) ({ cls := "HammockReachModel", name := "where", desc := "([III)I" } : Jvm.MethodName)) ∈ TT := TT_mem 774 (by decide +kernel) rfl
theorem tw_775 : (Jvm.Cond.static ({ cls := "HammockReachModel", name := "where", desc := "([III)I" } : Jvm.MethodName)) ∈ TT := TT_mem 775 (by decide +kernel) rfl
theorem tw_776 : (Jvm.Cond.code ({ cls := "HammockReachModel", name := "where", desc := "([III)I" } : Jvm.MethodName) prog_8_method_25_code (6 : Nat) (Option.some Jvm.ClassFile.FieldType.int)) ∈ TT := TT_mem 776 (by decide +kernel) rfl
theorem tw_777 : (Jvm.Cond.methodLink "HammockReachModel" (139 : Nat) ({ cls := "HammockReachModel", name := "swung", desc := "(II)I" } : Jvm.MethodName)) ∈ TT := TT_mem 777 (by decide +kernel) rfl
theorem tw_778 : (Jvm.Cond.static ({ cls := "HammockReachModel", name := "swung", desc := "(II)I" } : Jvm.MethodName)) ∈ TT := TT_mem 778 (by decide +kernel) rfl
theorem tw_779 : (Jvm.Cond.code ({ cls := "HammockReachModel", name := "swung", desc := "(II)I" } : Jvm.MethodName) prog_8_method_24_code (3 : Nat) (Option.some Jvm.ClassFile.FieldType.int)) ∈ TT := TT_mem 779 (by decide +kernel) rfl
theorem tw_780 : (Jvm.Cond.methodLink "HammockReachLaw" (57 : Nat) ({ cls := "HammockReachModel", name := "load", desc := "(II)I" } : Jvm.MethodName)) ∈ TT := TT_mem 780 (by decide +kernel) rfl
theorem tw_781 : (Jvm.Cond.instanceMethod ({ cls := "HammockReachModel", name := "load", desc := "(II)I" } : Jvm.MethodName)) ∈ TT := TT_mem 781 (by decide +kernel) rfl
theorem tw_782 : (Jvm.Cond.selects "HammockReachModel" ({ cls := "HammockReachModel", name := "load", desc := "(II)I" } : Jvm.MethodName) ({ cls := "HammockReachModel", name := "load", desc := "(II)I" } : Jvm.MethodName)) ∈ TT := TT_mem 782 (by decide +kernel) rfl
theorem tw_783 : (Jvm.Cond.code ({ cls := "HammockReachModel", name := "load", desc := "(II)I" } : Jvm.MethodName) prog_8_method_39_code (3 : Nat) (Option.some Jvm.ClassFile.FieldType.int)) ∈ TT := TT_mem 783 (by decide +kernel) rfl
theorem tw_784 : (Jvm.Cond.constantLong "HammockReachModel" (186 : Nat) (20 : Int64)) ∈ TT := TT_mem 784 (by decide +kernel) rfl
theorem tw_785 : (Jvm.Cond.methodLink "HammockReachLaw" (61 : Nat) ({ cls := "HammockReachModel", name := "cord", desc := "(II)I" } : Jvm.MethodName)) ∈ TT := TT_mem 785 (by decide +kernel) rfl
theorem tw_786 : (Jvm.Cond.instanceMethod ({ cls := "HammockReachModel", name := "cord", desc := "(II)I" } : Jvm.MethodName)) ∈ TT := TT_mem 786 (by decide +kernel) rfl
theorem tw_787 : (Jvm.Cond.selects "HammockReachModel" ({ cls := "HammockReachModel", name := "cord", desc := "(II)I" } : Jvm.MethodName) ({ cls := "HammockReachModel", name := "cord", desc := "(II)I" } : Jvm.MethodName)) ∈ TT := TT_mem 787 (by decide +kernel) rfl
theorem tw_788 : (Jvm.Cond.code ({ cls := "HammockReachModel", name := "cord", desc := "(II)I" } : Jvm.MethodName) prog_8_method_40_code (3 : Nat) (Option.some Jvm.ClassFile.FieldType.int)) ∈ TT := TT_mem 788 (by decide +kernel) rfl
theorem tw_789 : (Jvm.Cond.methodLink "HammockReachModel" (188 : Nat) ({ cls := "HammockReachModel", name := "isTwo", desc := "(I)Z" } : Jvm.MethodName)) ∈ TT := TT_mem 789 (by decide +kernel) rfl
theorem tw_790 : (Jvm.Cond.static ({ cls := "HammockReachModel", name := "isTwo", desc := "(I)Z" } : Jvm.MethodName)) ∈ TT := TT_mem 790 (by decide +kernel) rfl
theorem tw_791 : (Jvm.Cond.code ({ cls := "HammockReachModel", name := "isTwo", desc := "(I)Z" } : Jvm.MethodName) prog_8_method_34_code (1 : Nat) (Option.some Jvm.ClassFile.FieldType.boolean)) ∈ TT := TT_mem 791 (by decide +kernel) rfl
theorem tw_792 : (Jvm.Cond.methodLink "HammockReachLaw" (65 : Nat) ({ cls := "HammockReachModel", name := "undo", desc := "()I" } : Jvm.MethodName)) ∈ TT := TT_mem 792 (by decide +kernel) rfl
theorem tw_793 : (Jvm.Cond.instanceMethod ({ cls := "HammockReachModel", name := "undo", desc := "()I" } : Jvm.MethodName)) ∈ TT := TT_mem 793 (by decide +kernel) rfl
theorem tw_794 : (Jvm.Cond.selects "HammockReachModel" ({ cls := "HammockReachModel", name := "undo", desc := "()I" } : Jvm.MethodName) ({ cls := "HammockReachModel", name := "undo", desc := "()I" } : Jvm.MethodName)) ∈ TT := TT_mem 794 (by decide +kernel) rfl
theorem tw_795 : (Jvm.Cond.code ({ cls := "HammockReachModel", name := "undo", desc := "()I" } : Jvm.MethodName) prog_8_method_41_code (1 : Nat) (Option.some Jvm.ClassFile.FieldType.int)) ∈ TT := TT_mem 795 (by decide +kernel) rfl
theorem tw_796 : (Jvm.Cond.methodLink "HammockReachLaw" (69 : Nat) ({ cls := "HammockReachModel", name := "hammock", desc := "(II)I" } : Jvm.MethodName)) ∈ TT := TT_mem 796 (by decide +kernel) rfl
theorem tw_797 : (Jvm.Cond.instanceMethod ({ cls := "HammockReachModel", name := "hammock", desc := "(II)I" } : Jvm.MethodName)) ∈ TT := TT_mem 797 (by decide +kernel) rfl
theorem tw_798 : (Jvm.Cond.selects "HammockReachModel" ({ cls := "HammockReachModel", name := "hammock", desc := "(II)I" } : Jvm.MethodName) ({ cls := "HammockReachModel", name := "hammock", desc := "(II)I" } : Jvm.MethodName)) ∈ TT := TT_mem 798 (by decide +kernel) rfl
theorem tw_799 : (Jvm.Cond.code ({ cls := "HammockReachModel", name := "hammock", desc := "(II)I" } : Jvm.MethodName) prog_8_method_42_code (3 : Nat) (Option.some Jvm.ClassFile.FieldType.int)) ∈ TT := TT_mem 799 (by decide +kernel) rfl
theorem tw_800 : (Jvm.Cond.methodLink "HammockReachLaw" (73 : Nat) ({ cls := "HammockReachModel", name := "ahead", desc := "(III)I" } : Jvm.MethodName)) ∈ TT := TT_mem 800 (by decide +kernel) rfl
theorem tw_801 : (Jvm.Cond.instanceMethod ({ cls := "HammockReachModel", name := "ahead", desc := "(III)I" } : Jvm.MethodName)) ∈ TT := TT_mem 801 (by decide +kernel) rfl
theorem tw_802 : (Jvm.Cond.selects "HammockReachModel" ({ cls := "HammockReachModel", name := "ahead", desc := "(III)I" } : Jvm.MethodName) ({ cls := "HammockReachModel", name := "ahead", desc := "(III)I" } : Jvm.MethodName)) ∈ TT := TT_mem 802 (by decide +kernel) rfl
theorem tw_803 : (Jvm.Cond.code ({ cls := "HammockReachModel", name := "ahead", desc := "(III)I" } : Jvm.MethodName) prog_8_method_43_code (4 : Nat) (Option.some Jvm.ClassFile.FieldType.int)) ∈ TT := TT_mem 803 (by decide +kernel) rfl
theorem tw_804 : (Jvm.Cond.methodLink "HammockReachModel" (191 : Nat) ({ cls := "HammockReachModel", name := "isSpan", desc := "(I)Z" } : Jvm.MethodName)) ∈ TT := TT_mem 804 (by decide +kernel) rfl
theorem tw_805 : (Jvm.Cond.static ({ cls := "HammockReachModel", name := "isSpan", desc := "(I)Z" } : Jvm.MethodName)) ∈ TT := TT_mem 805 (by decide +kernel) rfl
theorem tw_806 : (Jvm.Cond.code ({ cls := "HammockReachModel", name := "isSpan", desc := "(I)Z" } : Jvm.MethodName) prog_8_method_35_code (1 : Nat) (Option.some Jvm.ClassFile.FieldType.boolean)) ∈ TT := TT_mem 806 (by decide +kernel) rfl
theorem tw_807 : (Jvm.Cond.constantLong "HammockReachModel" (166 : Nat) (60 : Int64)) ∈ TT := TT_mem 807 (by decide +kernel) rfl
theorem tw_808 : (Jvm.Cond.methodLink "HammockReachLaw" (77 : Nat) ({ cls := "HammockReachModel", name := "down", desc := "(I)I" } : Jvm.MethodName)) ∈ TT := TT_mem 808 (by decide +kernel) rfl
theorem tw_809 : (Jvm.Cond.instanceMethod ({ cls := "HammockReachModel", name := "down", desc := "(I)I" } : Jvm.MethodName)) ∈ TT := TT_mem 809 (by decide +kernel) rfl
theorem tw_810 : (Jvm.Cond.selects "HammockReachModel" ({ cls := "HammockReachModel", name := "down", desc := "(I)I" } : Jvm.MethodName) ({ cls := "HammockReachModel", name := "down", desc := "(I)I" } : Jvm.MethodName)) ∈ TT := TT_mem 810 (by decide +kernel) rfl
theorem tw_811 : (Jvm.Cond.code ({ cls := "HammockReachModel", name := "down", desc := "(I)I" } : Jvm.MethodName) prog_8_method_44_code (2 : Nat) (Option.some Jvm.ClassFile.FieldType.int)) ∈ TT := TT_mem 811 (by decide +kernel) rfl
theorem tw_812 : (Jvm.Cond.methodLink "HammockReachLaw" (81 : Nat) ({ cls := "HammockReachModel", name := "reach", desc := "(II)I" } : Jvm.MethodName)) ∈ TT := TT_mem 812 (by decide +kernel) rfl
theorem tw_813 : (Jvm.Cond.instanceMethod ({ cls := "HammockReachModel", name := "reach", desc := "(II)I" } : Jvm.MethodName)) ∈ TT := TT_mem 813 (by decide +kernel) rfl
theorem tw_814 : (Jvm.Cond.selects "HammockReachModel" ({ cls := "HammockReachModel", name := "reach", desc := "(II)I" } : Jvm.MethodName) ({ cls := "HammockReachModel", name := "reach", desc := "(II)I" } : Jvm.MethodName)) ∈ TT := TT_mem 814 (by decide +kernel) rfl
theorem tw_815 : (Jvm.Cond.code ({ cls := "HammockReachModel", name := "reach", desc := "(II)I" } : Jvm.MethodName) prog_8_method_45_code (3 : Nat) (Option.some Jvm.ClassFile.FieldType.int)) ∈ TT := TT_mem 815 (by decide +kernel) rfl
theorem tw_816 : (Jvm.Cond.methodLink "HammockReachModel" (162 : Nat) ({ cls := "HammockReachModel", name := "reachOf", desc := "([III)I" } : Jvm.MethodName)) ∈ TT := TT_mem 816 (by decide +kernel) rfl
theorem tw_817 : (Jvm.Cond.static ({ cls := "HammockReachModel", name := "reachOf", desc := "([III)I" } : Jvm.MethodName)) ∈ TT := TT_mem 817 (by decide +kernel) rfl
theorem tw_818 : (Jvm.Cond.code ({ cls := "HammockReachModel", name := "reachOf", desc := "([III)I" } : Jvm.MethodName) prog_8_method_29_code (5 : Nat) (Option.some Jvm.ClassFile.FieldType.int)) ∈ TT := TT_mem 818 (by decide +kernel) rfl
theorem tw_819 : (Jvm.Cond.methodLink "HammockReachModel" (158 : Nat) ({ cls := "HammockReachModel", name := "areNear", desc := "([IIII)Z" } : Jvm.MethodName)) ∈ TT := TT_mem 819 (by decide +kernel) rfl
theorem tw_820 : (Jvm.Cond.static ({ cls := "HammockReachModel", name := "areNear", desc := "([IIII)Z" } : Jvm.MethodName)) ∈ TT := TT_mem 820 (by decide +kernel) rfl
theorem tw_821 : (Jvm.Cond.code ({ cls := "HammockReachModel", name := "areNear", desc := "([IIII)Z" } : Jvm.MethodName) prog_8_method_28_code (5 : Nat) (Option.some Jvm.ClassFile.FieldType.boolean)) ∈ TT := TT_mem 821 (by decide +kernel) rfl
theorem tw_822 : (Jvm.Cond.methodLink "HammockReachLaw" (85 : Nat) ({ cls := "HammockReachModel", name := "meet", desc := "(II)I" } : Jvm.MethodName)) ∈ TT := TT_mem 822 (by decide +kernel) rfl
theorem tw_823 : (Jvm.Cond.instanceMethod ({ cls := "HammockReachModel", name := "meet", desc := "(II)I" } : Jvm.MethodName)) ∈ TT := TT_mem 823 (by decide +kernel) rfl
theorem tw_824 : (Jvm.Cond.selects "HammockReachModel" ({ cls := "HammockReachModel", name := "meet", desc := "(II)I" } : Jvm.MethodName) ({ cls := "HammockReachModel", name := "meet", desc := "(II)I" } : Jvm.MethodName)) ∈ TT := TT_mem 824 (by decide +kernel) rfl
theorem tw_825 : (Jvm.Cond.code ({ cls := "HammockReachModel", name := "meet", desc := "(II)I" } : Jvm.MethodName) prog_8_method_46_code (4 : Nat) (Option.some Jvm.ClassFile.FieldType.int)) ∈ TT := TT_mem 825 (by decide +kernel) rfl
theorem tw_826 : (Jvm.Cond.constant "HammockReachModel" (194 : Nat) (-1000000 : Int32)) ∈ TT := TT_mem 826 (by decide +kernel) rfl
theorem tw_827 : (Jvm.Cond.methodLink "HammockReachLaw" (89 : Nat) ({ cls := "HammockReachModel", name := "soonest", desc := "(II)I" } : Jvm.MethodName)) ∈ TT := TT_mem 827 (by decide +kernel) rfl
theorem tw_828 : (Jvm.Cond.instanceMethod ({ cls := "HammockReachModel", name := "soonest", desc := "(II)I" } : Jvm.MethodName)) ∈ TT := TT_mem 828 (by decide +kernel) rfl
theorem tw_829 : (Jvm.Cond.selects "HammockReachModel" ({ cls := "HammockReachModel", name := "soonest", desc := "(II)I" } : Jvm.MethodName) ({ cls := "HammockReachModel", name := "soonest", desc := "(II)I" } : Jvm.MethodName)) ∈ TT := TT_mem 829 (by decide +kernel) rfl
theorem tw_830 : (Jvm.Cond.code ({ cls := "HammockReachModel", name := "soonest", desc := "(II)I" } : Jvm.MethodName) prog_8_method_48_code (3 : Nat) (Option.some Jvm.ClassFile.FieldType.int)) ∈ TT := TT_mem 830 (by decide +kernel) rfl
theorem tw_831 : (Jvm.Cond.methodLink "HammockReachModel" (195 : Nat) ({ cls := "HammockReachModel", name := "soonestOf", desc := "([III)I" } : Jvm.MethodName)) ∈ TT := TT_mem 831 (by decide +kernel) rfl
theorem tw_832 : (Jvm.Cond.static ({ cls := "HammockReachModel", name := "soonestOf", desc := "([III)I" } : Jvm.MethodName)) ∈ TT := TT_mem 832 (by decide +kernel) rfl
theorem tw_833 : (Jvm.Cond.code ({ cls := "HammockReachModel", name := "soonestOf", desc := "([III)I" } : Jvm.MethodName) prog_8_method_31_code (7 : Nat) (Option.some Jvm.ClassFile.FieldType.int)) ∈ TT := TT_mem 833 (by decide +kernel) rfl
theorem tw_834 : (Jvm.Cond.constant "HammockReachModel" (165 : Nat) (1000000 : Int32)) ∈ TT := TT_mem 834 (by decide +kernel) rfl
theorem tw_835 : (Jvm.Cond.methodLink "HammockReachModel" (198 : Nat) ({ cls := "HammockReachModel", name := "told", desc := "(I)I" } : Jvm.MethodName)) ∈ TT := TT_mem 835 (by decide +kernel) rfl
theorem tw_836 : (Jvm.Cond.static ({ cls := "HammockReachModel", name := "told", desc := "(I)I" } : Jvm.MethodName)) ∈ TT := TT_mem 836 (by decide +kernel) rfl
theorem tw_837 : (Jvm.Cond.code ({ cls := "HammockReachModel", name := "told", desc := "(I)I" } : Jvm.MethodName) prog_8_method_47_code (1 : Nat) (Option.some Jvm.ClassFile.FieldType.int)) ∈ TT := TT_mem 837 (by decide +kernel) rfl
theorem tw_838 : (Jvm.Cond.methodLink "HammockReachLaw" (93 : Nat) ({ cls := "HammockReachModel", name := "hands", desc := "(II)I" } : Jvm.MethodName)) ∈ TT := TT_mem 838 (by decide +kernel) rfl
theorem tw_839 : (Jvm.Cond.instanceMethod ({ cls := "HammockReachModel", name := "hands", desc := "(II)I" } : Jvm.MethodName)) ∈ TT := TT_mem 839 (by decide +kernel) rfl
theorem tw_840 : (Jvm.Cond.selects "HammockReachModel" ({ cls := "HammockReachModel", name := "hands", desc := "(II)I" } : Jvm.MethodName) ({ cls := "HammockReachModel", name := "hands", desc := "(II)I" } : Jvm.MethodName)) ∈ TT := TT_mem 840 (by decide +kernel) rfl
theorem tw_841 : (Jvm.Cond.code ({ cls := "HammockReachModel", name := "hands", desc := "(II)I" } : Jvm.MethodName) prog_8_method_49_code (7 : Nat) (Option.some Jvm.ClassFile.FieldType.int)) ∈ TT := TT_mem 841 (by decide +kernel) rfl
theorem tw_842 : (Jvm.Cond.methodLink "HammockReachLaw" (97 : Nat) ({ cls := "HammockReachModel", name := "everywhere", desc := "(II)I" } : Jvm.MethodName)) ∈ TT := TT_mem 842 (by decide +kernel) rfl
theorem tw_843 : (Jvm.Cond.instanceMethod ({ cls := "HammockReachModel", name := "everywhere", desc := "(II)I" } : Jvm.MethodName)) ∈ TT := TT_mem 843 (by decide +kernel) rfl
theorem tw_844 : (Jvm.Cond.selects "HammockReachModel" ({ cls := "HammockReachModel", name := "everywhere", desc := "(II)I" } : Jvm.MethodName) ({ cls := "HammockReachModel", name := "everywhere", desc := "(II)I" } : Jvm.MethodName)) ∈ TT := TT_mem 844 (by decide +kernel) rfl
theorem tw_845 : (Jvm.Cond.code ({ cls := "HammockReachModel", name := "everywhere", desc := "(II)I" } : Jvm.MethodName) prog_8_method_50_code (3 : Nat) (Option.some Jvm.ClassFile.FieldType.int)) ∈ TT := TT_mem 845 (by decide +kernel) rfl
theorem tw_846 : (Jvm.Cond.methodLink "HammockReachModel" (201 : Nat) ({ cls := "HammockReachModel", name := "spread", desc := "([III)I" } : Jvm.MethodName)) ∈ TT := TT_mem 846 (by decide +kernel) rfl
theorem tw_847 : (Jvm.Cond.static ({ cls := "HammockReachModel", name := "spread", desc := "([III)I" } : Jvm.MethodName)) ∈ TT := TT_mem 847 (by decide +kernel) rfl
theorem tw_848 : (Jvm.Cond.code ({ cls := "HammockReachModel", name := "spread", desc := "([III)I" } : Jvm.MethodName) prog_8_method_30_code (7 : Nat) (Option.some Jvm.ClassFile.FieldType.int)) ∈ TT := TT_mem 848 (by decide +kernel) rfl
theorem tw_849 : (Jvm.Cond.methodLink "HammockReachLaw" (101 : Nat) ({ cls := "HammockReachModel", name := "stops", desc := "(III)I" } : Jvm.MethodName)) ∈ TT := TT_mem 849 (by decide +kernel) rfl
theorem tw_850 : (Jvm.Cond.instanceMethod ({ cls := "HammockReachModel", name := "stops", desc := "(III)I" } : Jvm.MethodName)) ∈ TT := TT_mem 850 (by decide +kernel) rfl
theorem tw_851 : (Jvm.Cond.selects "HammockReachModel" ({ cls := "HammockReachModel", name := "stops", desc := "(III)I" } : Jvm.MethodName) ({ cls := "HammockReachModel", name := "stops", desc := "(III)I" } : Jvm.MethodName)) ∈ TT := TT_mem 851 (by decide +kernel) rfl
theorem tw_852 : (Jvm.Cond.code ({ cls := "HammockReachModel", name := "stops", desc := "(III)I" } : Jvm.MethodName) prog_8_method_52_code (6 : Nat) (Option.some Jvm.ClassFile.FieldType.int)) ∈ TT := TT_mem 852 (by decide +kernel) rfl
theorem tw_853 : (Jvm.Cond.methodLink "HammockReachModel" (204 : Nat) ({ cls := "HammockReachModel", name := "layAside", desc := "()V" } : Jvm.MethodName)) ∈ TT := TT_mem 853 (by decide +kernel) rfl
theorem tw_855 : (Jvm.Cond.instanceMethod ({ cls := "HammockReachModel", name := "layAside", desc := "()V" } : Jvm.MethodName)) ∈ TT := TT_mem 855 (by decide +kernel) rfl
theorem tw_856 : (Jvm.Cond.code ({ cls := "HammockReachModel", name := "layAside", desc := "()V" } : Jvm.MethodName) prog_8_method_51_code (1 : Nat) (Option.none : Option Jvm.ClassFile.FieldType)) ∈ TT := TT_mem 856 (by decide +kernel) rfl
theorem tw_857 : (Jvm.Cond.methodLink "HammockReachLaw" (106 : Nat) ({ cls := "HammockReachModel", name := "toSling", desc := "(IIII)I" } : Jvm.MethodName)) ∈ TT := TT_mem 857 (by decide +kernel) rfl
theorem tw_858 : (Jvm.Cond.instanceMethod ({ cls := "HammockReachModel", name := "toSling", desc := "(IIII)I" } : Jvm.MethodName)) ∈ TT := TT_mem 858 (by decide +kernel) rfl
theorem tw_859 : (Jvm.Cond.selects "HammockReachModel" ({ cls := "HammockReachModel", name := "toSling", desc := "(IIII)I" } : Jvm.MethodName) ({ cls := "HammockReachModel", name := "toSling", desc := "(IIII)I" } : Jvm.MethodName)) ∈ TT := TT_mem 859 (by decide +kernel) rfl
theorem tw_860 : (Jvm.Cond.code ({ cls := "HammockReachModel", name := "toSling", desc := "(IIII)I" } : Jvm.MethodName) prog_8_method_53_code (10 : Nat) (Option.some Jvm.ClassFile.FieldType.int)) ∈ TT := TT_mem 860 (by decide +kernel) rfl
theorem tw_861 : (Jvm.Cond.methodLink "HammockReachLaw" (110 : Nat) ({ cls := "HammockReachModel", name := "fits", desc := "(IIIII)I" } : Jvm.MethodName)) ∈ TT := TT_mem 861 (by decide +kernel) rfl
theorem tw_862 : (Jvm.Cond.instanceMethod ({ cls := "HammockReachModel", name := "fits", desc := "(IIIII)I" } : Jvm.MethodName)) ∈ TT := TT_mem 862 (by decide +kernel) rfl
theorem tw_863 : (Jvm.Cond.selects "HammockReachModel" ({ cls := "HammockReachModel", name := "fits", desc := "(IIIII)I" } : Jvm.MethodName) ({ cls := "HammockReachModel", name := "fits", desc := "(IIIII)I" } : Jvm.MethodName)) ∈ TT := TT_mem 863 (by decide +kernel) rfl
theorem tw_864 : (Jvm.Cond.code ({ cls := "HammockReachModel", name := "fits", desc := "(IIIII)I" } : Jvm.MethodName) prog_8_method_54_code (14 : Nat) (Option.some Jvm.ClassFile.FieldType.int)) ∈ TT := TT_mem 864 (by decide +kernel) rfl
theorem tw_865 : (Jvm.Cond.constantLong "HammockReachModel" (207 : Nat) (16 : Int64)) ∈ TT := TT_mem 865 (by decide +kernel) rfl
theorem tw_866 : (Jvm.Cond.methodLink "HammockReachLaw" (114 : Nat) ({ cls := "HammockReachModel", name := "breaks", desc := "(IIIII)I" } : Jvm.MethodName)) ∈ TT := TT_mem 866 (by decide +kernel) rfl
theorem tw_867 : (Jvm.Cond.instanceMethod ({ cls := "HammockReachModel", name := "breaks", desc := "(IIIII)I" } : Jvm.MethodName)) ∈ TT := TT_mem 867 (by decide +kernel) rfl
theorem tw_868 : (Jvm.Cond.selects "HammockReachModel" ({ cls := "HammockReachModel", name := "breaks", desc := "(IIIII)I" } : Jvm.MethodName) ({ cls := "HammockReachModel", name := "breaks", desc := "(IIIII)I" } : Jvm.MethodName)) ∈ TT := TT_mem 868 (by decide +kernel) rfl
theorem tw_869 : (Jvm.Cond.code ({ cls := "HammockReachModel", name := "breaks", desc := "(IIIII)I" } : Jvm.MethodName) prog_8_method_55_code (16 : Nat) (Option.some Jvm.ClassFile.FieldType.int)) ∈ TT := TT_mem 869 (by decide +kernel) rfl
theorem tw_870 : (Jvm.Cond.constantLong "HammockReachModel" (209 : Nat) (10 : Int64)) ∈ TT := TT_mem 870 (by decide +kernel) rfl
theorem tw_871 : (Jvm.Cond.methodLink "HammockReachLaw" (118 : Nat) ({ cls := "HammockReachModel", name := "image", desc := "(I)I" } : Jvm.MethodName)) ∈ TT := TT_mem 871 (by decide +kernel) rfl
theorem tw_872 : (Jvm.Cond.instanceMethod ({ cls := "HammockReachModel", name := "image", desc := "(I)I" } : Jvm.MethodName)) ∈ TT := TT_mem 872 (by decide +kernel) rfl
theorem tw_873 : (Jvm.Cond.selects "HammockReachModel" ({ cls := "HammockReachModel", name := "image", desc := "(I)I" } : Jvm.MethodName) ({ cls := "HammockReachModel", name := "image", desc := "(I)I" } : Jvm.MethodName)) ∈ TT := TT_mem 873 (by decide +kernel) rfl
theorem tw_874 : (Jvm.Cond.code ({ cls := "HammockReachModel", name := "image", desc := "(I)I" } : Jvm.MethodName) prog_8_method_56_code (2 : Nat) (Option.some Jvm.ClassFile.FieldType.int)) ∈ TT := TT_mem 874 (by decide +kernel) rfl
theorem tw_875 : (Jvm.Cond.methodLink "HammockReachLaw" (122 : Nat) ({ cls := "HammockReachModel", name := "restore", desc := "(I)I" } : Jvm.MethodName)) ∈ TT := TT_mem 875 (by decide +kernel) rfl
theorem tw_876 : (Jvm.Cond.instanceMethod ({ cls := "HammockReachModel", name := "restore", desc := "(I)I" } : Jvm.MethodName)) ∈ TT := TT_mem 876 (by decide +kernel) rfl
theorem tw_877 : (Jvm.Cond.selects "HammockReachModel" ({ cls := "HammockReachModel", name := "restore", desc := "(I)I" } : Jvm.MethodName) ({ cls := "HammockReachModel", name := "restore", desc := "(I)I" } : Jvm.MethodName)) ∈ TT := TT_mem 877 (by decide +kernel) rfl
theorem tw_878 : (Jvm.Cond.code ({ cls := "HammockReachModel", name := "restore", desc := "(I)I" } : Jvm.MethodName) prog_8_method_57_code (2 : Nat) (Option.some Jvm.ClassFile.FieldType.int)) ∈ TT := TT_mem 878 (by decide +kernel) rfl
theorem tw_879 : (Jvm.Cond.methodLink "HammockReachLaw" (126 : Nat) ({ cls := "HammockReachModel", name := "kind", desc := "(I)I" } : Jvm.MethodName)) ∈ TT := TT_mem 879 (by decide +kernel) rfl
theorem tw_880 : (Jvm.Cond.instanceMethod ({ cls := "HammockReachModel", name := "kind", desc := "(I)I" } : Jvm.MethodName)) ∈ TT := TT_mem 880 (by decide +kernel) rfl
theorem tw_881 : (Jvm.Cond.selects "HammockReachModel" ({ cls := "HammockReachModel", name := "kind", desc := "(I)I" } : Jvm.MethodName) ({ cls := "HammockReachModel", name := "kind", desc := "(I)I" } : Jvm.MethodName)) ∈ TT := TT_mem 881 (by decide +kernel) rfl
theorem tw_882 : (Jvm.Cond.code ({ cls := "HammockReachModel", name := "kind", desc := "(I)I" } : Jvm.MethodName) prog_8_method_58_code (2 : Nat) (Option.some Jvm.ClassFile.FieldType.int)) ∈ TT := TT_mem 882 (by decide +kernel) rfl
theorem tw_883 : (Jvm.Cond.methodLink "HammockReachLaw" (130 : Nat) ({ cls := "HammockReachModel", name := "as", desc := "(II)I" } : Jvm.MethodName)) ∈ TT := TT_mem 883 (by decide +kernel) rfl
theorem tw_884 : (Jvm.Cond.instanceMethod ({ cls := "HammockReachModel", name := "as", desc := "(II)I" } : Jvm.MethodName)) ∈ TT := TT_mem 884 (by decide +kernel) rfl
theorem tw_885 : (Jvm.Cond.selects "HammockReachModel" ({ cls := "HammockReachModel", name := "as", desc := "(II)I" } : Jvm.MethodName) ({ cls := "HammockReachModel", name := "as", desc := "(II)I" } : Jvm.MethodName)) ∈ TT := TT_mem 885 (by decide +kernel) rfl
theorem tw_886 : (Jvm.Cond.code ({ cls := "HammockReachModel", name := "as", desc := "(II)I" } : Jvm.MethodName) prog_8_method_60_code (3 : Nat) (Option.some Jvm.ClassFile.FieldType.int)) ∈ TT := TT_mem 886 (by decide +kernel) rfl
theorem tw_887 : (Jvm.Cond.constantLong "HammockReachModel" (211 : Nat) (5 : Int64)) ∈ TT := TT_mem 887 (by decide +kernel) rfl
theorem tw_888 : (Jvm.Cond.methodLink "HammockReachModel" (213 : Nat) ({ cls := "HammockReachModel", name := "isOf", desc := "(II)Z" } : Jvm.MethodName)) ∈ TT := TT_mem 888 (by decide +kernel) rfl
theorem tw_889 : (Jvm.Cond.static ({ cls := "HammockReachModel", name := "isOf", desc := "(II)Z" } : Jvm.MethodName)) ∈ TT := TT_mem 889 (by decide +kernel) rfl
theorem tw_890 : (Jvm.Cond.code ({ cls := "HammockReachModel", name := "isOf", desc := "(II)Z" } : Jvm.MethodName) prog_8_method_59_code (2 : Nat) (Option.some Jvm.ClassFile.FieldType.boolean)) ∈ TT := TT_mem 890 (by decide +kernel) rfl
theorem tw_891 : (Jvm.Cond.methodLink "HammockReachLaw" (134 : Nat) ({ cls := "HammockReachModel", name := "ask", desc := "(II)I" } : Jvm.MethodName)) ∈ TT := TT_mem 891 (by decide +kernel) rfl
theorem tw_892 : (Jvm.Cond.instanceMethod ({ cls := "HammockReachModel", name := "ask", desc := "(II)I" } : Jvm.MethodName)) ∈ TT := TT_mem 892 (by decide +kernel) rfl
theorem tw_893 : (Jvm.Cond.selects "HammockReachModel" ({ cls := "HammockReachModel", name := "ask", desc := "(II)I" } : Jvm.MethodName) ({ cls := "HammockReachModel", name := "ask", desc := "(II)I" } : Jvm.MethodName)) ∈ TT := TT_mem 893 (by decide +kernel) rfl
theorem tw_894 : (Jvm.Cond.code ({ cls := "HammockReachModel", name := "ask", desc := "(II)I" } : Jvm.MethodName) prog_8_method_64_code (5 : Nat) (Option.some Jvm.ClassFile.FieldType.int)) ∈ TT := TT_mem 894 (by decide +kernel) rfl
theorem tw_895 : (Jvm.Cond.methodLink "HammockReachModel" (235 : Nat) ({ cls := "HammockReachModel", name := "mark", desc := "(I)I" } : Jvm.MethodName)) ∈ TT := TT_mem 895 (by decide +kernel) rfl
theorem tw_897 : (Jvm.Cond.instanceMethod ({ cls := "HammockReachModel", name := "mark", desc := "(I)I" } : Jvm.MethodName)) ∈ TT := TT_mem 897 (by decide +kernel) rfl
theorem tw_898 : (Jvm.Cond.code ({ cls := "HammockReachModel", name := "mark", desc := "(I)I" } : Jvm.MethodName) prog_8_method_62_code (4 : Nat) (Option.some Jvm.ClassFile.FieldType.int)) ∈ TT := TT_mem 898 (by decide +kernel) rfl
theorem tw_899 : (Jvm.Cond.constantLong "HammockReachModel" (221 : Nat) (242120 : Int64)) ∈ TT := TT_mem 899 (by decide +kernel) rfl
theorem tw_900 : (Jvm.Cond.constantLong "HammockReachModel" (223 : Nat) (222120 : Int64)) ∈ TT := TT_mem 900 (by decide +kernel) rfl
theorem tw_901 : (Jvm.Cond.constantLong "HammockReachModel" (225 : Nat) (2120 : Int64)) ∈ TT := TT_mem 901 (by decide +kernel) rfl
theorem tw_902 : (Jvm.Cond.methodLink "HammockReachModel" (227 : Nat) ({ cls := "HammockReachModel", name := "leave", desc := "(J)V" } : Jvm.MethodName)) ∈ TT := TT_mem 902 (by decide +kernel) rfl
theorem tw_904 : (Jvm.Cond.instanceMethod ({ cls := "HammockReachModel", name := "leave", desc := "(J)V" } : Jvm.MethodName)) ∈ TT := TT_mem 904 (by decide +kernel) rfl
theorem tw_905 : (Jvm.Cond.code ({ cls := "HammockReachModel", name := "leave", desc := "(J)V" } : Jvm.MethodName) prog_8_method_61_code (7 : Nat) (Option.none : Option Jvm.ClassFile.FieldType)) ∈ TT := TT_mem 905 (by decide +kernel) rfl
theorem tw_906 : (Jvm.Cond.constantLong "HammockReachModel" (216 : Nat) (100 : Int64)) ∈ TT := TT_mem 906 (by decide +kernel) rfl
theorem tw_907 : (Jvm.Cond.constantLong "HammockReachModel" (238 : Nat) (121110 : Int64)) ∈ TT := TT_mem 907 (by decide +kernel) rfl
theorem tw_908 : (Jvm.Cond.constantLong "HammockReachModel" (240 : Nat) (1110 : Int64)) ∈ TT := TT_mem 908 (by decide +kernel) rfl
theorem tw_909 : (Jvm.Cond.methodLink "HammockReachModel" (242 : Nat) ({ cls := "HammockReachModel", name := "sizeOf", desc := "(I)I" } : Jvm.MethodName)) ∈ TT := TT_mem 909 (by decide +kernel) rfl
theorem tw_911 : (Jvm.Cond.instanceMethod ({ cls := "HammockReachModel", name := "sizeOf", desc := "(I)I" } : Jvm.MethodName)) ∈ TT := TT_mem 911 (by decide +kernel) rfl
theorem tw_912 : (Jvm.Cond.code ({ cls := "HammockReachModel", name := "sizeOf", desc := "(I)I" } : Jvm.MethodName) prog_8_method_63_code (4 : Nat) (Option.some Jvm.ClassFile.FieldType.int)) ∈ TT := TT_mem 912 (by decide +kernel) rfl
theorem tw_913 : (Jvm.Cond.constantLong "HammockReachModel" (231 : Nat) (141310 : Int64)) ∈ TT := TT_mem 913 (by decide +kernel) rfl
theorem tw_914 : (Jvm.Cond.constantLong "HammockReachModel" (233 : Nat) (1310 : Int64)) ∈ TT := TT_mem 914 (by decide +kernel) rfl
theorem tw_915 : (Jvm.Cond.constantLong "HammockReachModel" (245 : Nat) (2320 : Int64)) ∈ TT := TT_mem 915 (by decide +kernel) rfl
theorem tw_916 : (Jvm.Cond.methodLink "HammockReachLaw" (138 : Nat) ({ cls := "HammockReachModel", name := "trace", desc := "(I)I" } : Jvm.MethodName)) ∈ TT := TT_mem 916 (by decide +kernel) rfl
theorem tw_917 : (Jvm.Cond.instanceMethod ({ cls := "HammockReachModel", name := "trace", desc := "(I)I" } : Jvm.MethodName)) ∈ TT := TT_mem 917 (by decide +kernel) rfl
theorem tw_918 : (Jvm.Cond.selects "HammockReachModel" ({ cls := "HammockReachModel", name := "trace", desc := "(I)I" } : Jvm.MethodName) ({ cls := "HammockReachModel", name := "trace", desc := "(I)I" } : Jvm.MethodName)) ∈ TT := TT_mem 918 (by decide +kernel) rfl
theorem tw_919 : (Jvm.Cond.code ({ cls := "HammockReachModel", name := "trace", desc := "(I)I" } : Jvm.MethodName) prog_8_method_65_code (2 : Nat) (Option.some Jvm.ClassFile.FieldType.int)) ∈ TT := TT_mem 919 (by decide +kernel) rfl
theorem tw_920 : (Jvm.Cond.methodLink "HammockReachLaw" (142 : Nat) ({ cls := "HammockReachModel", name := "count", desc := "(I)I" } : Jvm.MethodName)) ∈ TT := TT_mem 920 (by decide +kernel) rfl
theorem tw_921 : (Jvm.Cond.instanceMethod ({ cls := "HammockReachModel", name := "count", desc := "(I)I" } : Jvm.MethodName)) ∈ TT := TT_mem 921 (by decide +kernel) rfl
theorem tw_922 : (Jvm.Cond.selects "HammockReachModel" ({ cls := "HammockReachModel", name := "count", desc := "(I)I" } : Jvm.MethodName) ({ cls := "HammockReachModel", name := "count", desc := "(I)I" } : Jvm.MethodName)) ∈ TT := TT_mem 922 (by decide +kernel) rfl
theorem tw_923 : (Jvm.Cond.code ({ cls := "HammockReachModel", name := "count", desc := "(I)I" } : Jvm.MethodName) prog_8_method_66_code (5 : Nat) (Option.some Jvm.ClassFile.FieldType.int)) ∈ TT := TT_mem 923 (by decide +kernel) rfl
theorem tw_924 : (Jvm.Cond.methodLink "HammockReachLaw" (146 : Nat) ({ cls := "HammockReachModel", name := "status", desc := "()I" } : Jvm.MethodName)) ∈ TT := TT_mem 924 (by decide +kernel) rfl
theorem tw_925 : (Jvm.Cond.instanceMethod ({ cls := "HammockReachModel", name := "status", desc := "()I" } : Jvm.MethodName)) ∈ TT := TT_mem 925 (by decide +kernel) rfl
theorem tw_926 : (Jvm.Cond.selects "HammockReachModel" ({ cls := "HammockReachModel", name := "status", desc := "()I" } : Jvm.MethodName) ({ cls := "HammockReachModel", name := "status", desc := "()I" } : Jvm.MethodName)) ∈ TT := TT_mem 926 (by decide +kernel) rfl
theorem tw_927 : (Jvm.Cond.code ({ cls := "HammockReachModel", name := "status", desc := "()I" } : Jvm.MethodName) prog_8_method_67_code (1 : Nat) (Option.some Jvm.ClassFile.FieldType.int)) ∈ TT := TT_mem 927 (by decide +kernel) rfl
theorem xlay_X0 : ∀ w ∈ u_ws RX0 TX0 6, w ∈ TT := by
  have h : ∀ w ∈ u_ws RX0 TX0 6, w ∈ lw_tbl ∧ goodWord w = true := by decide +kernel
  exact fun w hw => List.mem_filter.mpr (h w hw)
theorem xlay_X1 : ∀ w ∈ u_ws RX1 TX1 11, w ∈ TT := by
  have h : ∀ w ∈ u_ws RX1 TX1 11, w ∈ lw_tbl ∧ goodWord w = true := by decide +kernel
  exact fun w hw => List.mem_filter.mpr (h w hw)
theorem xlay_X2 : ∀ w ∈ u_ws RX2 TX2 4, w ∈ TT := by
  have h : ∀ w ∈ u_ws RX2 TX2 4, w ∈ lw_tbl ∧ goodWord w = true := by decide +kernel
  exact fun w hw => List.mem_filter.mpr (h w hw)
theorem xlay_X3 : ∀ w ∈ u_ws RX3 TX3 3, w ∈ TT := by
  have h : ∀ w ∈ u_ws RX3 TX3 3, w ∈ lw_tbl ∧ goodWord w = true := by decide +kernel
  exact fun w hw => List.mem_filter.mpr (h w hw)
theorem xlay_X4 : ∀ w ∈ u_ws RX4 TX4 4, w ∈ TT := by
  have h : ∀ w ∈ u_ws RX4 TX4 4, w ∈ lw_tbl ∧ goodWord w = true := by decide +kernel
  exact fun w hw => List.mem_filter.mpr (h w hw)
theorem xlay_X5 : ∀ w ∈ u_ws RX5 TX5 10, w ∈ TT := by
  have h : ∀ w ∈ u_ws RX5 TX5 10, w ∈ lw_tbl ∧ goodWord w = true := by decide +kernel
  exact fun w hw => List.mem_filter.mpr (h w hw)
theorem xlay_X6 : ∀ w ∈ u_ws RX6 TX6 23, w ∈ TT := by
  have h : ∀ w ∈ u_ws RX6 TX6 23, w ∈ lw_tbl ∧ goodWord w = true := by decide +kernel
  exact fun w hw => List.mem_filter.mpr (h w hw)
theorem xf_X4_9 : xF RX4 9 4 0 := ⟨RX4, TX4, 4, rfl, by decide, tw_27, xlay_X4, ⟨tyX4, tyX4_ok⟩, nmX4⟩
theorem xf_X5_101 : xF RX5 101 4 0 := ⟨RX4, TX4, 4, rfl, by decide, tw_28, xlay_X4, ⟨tyX4, tyX4_ok⟩, nmX4⟩
theorem xf_X4_28 : xF RX4 28 4 1 := ⟨RX4, TX4, 4, rfl, by decide, tw_29, xlay_X4, ⟨tyX4, tyX4_ok⟩, nmX4⟩
theorem xf_X5_97 : xF RX5 97 4 1 := ⟨RX4, TX4, 4, rfl, by decide, tw_30, xlay_X4, ⟨tyX4, tyX4_ok⟩, nmX4⟩
theorem xf_X4_15 : xF RX4 15 4 2 := ⟨RX4, TX4, 4, rfl, by decide, tw_31, xlay_X4, ⟨tyX4, tyX4_ok⟩, nmX4⟩
theorem xf_X5_109 : xF RX5 109 4 2 := ⟨RX4, TX4, 4, rfl, by decide, tw_32, xlay_X4, ⟨tyX4, tyX4_ok⟩, nmX4⟩
theorem xf_X5_120 : xF RX5 120 4 3 := ⟨RX4, TX4, 4, rfl, by decide, tw_33, xlay_X4, ⟨tyX4, tyX4_ok⟩, nmX4⟩
theorem xf_X4_86 : xF RX4 86 4 3 := ⟨RX4, TX4, 4, rfl, by decide, tw_34, xlay_X4, ⟨tyX4, tyX4_ok⟩, nmX4⟩
theorem xf_X1_9 : xF RX1 9 1 0 := ⟨RX1, TX1, 11, rfl, by decide, tw_51, xlay_X1, ⟨tyX1, tyX1_ok⟩, nmX1⟩
theorem xf_X4_61 : xF RX4 61 1 0 := ⟨RX1, TX1, 11, rfl, by decide, tw_52, xlay_X1, ⟨tyX1, tyX1_ok⟩, nmX1⟩
theorem xf_X5_226 : xF RX5 226 1 0 := ⟨RX1, TX1, 11, rfl, by decide, tw_53, xlay_X1, ⟨tyX1, tyX1_ok⟩, nmX1⟩
theorem xf_X1_15 : xF RX1 15 1 1 := ⟨RX1, TX1, 11, rfl, by decide, tw_54, xlay_X1, ⟨tyX1, tyX1_ok⟩, nmX1⟩
theorem xf_X0_31 : xF RX0 31 1 1 := ⟨RX1, TX1, 11, rfl, by decide, tw_55, xlay_X1, ⟨tyX1, tyX1_ok⟩, nmX1⟩
theorem xf_X4_71 : xF RX4 71 1 1 := ⟨RX1, TX1, 11, rfl, by decide, tw_56, xlay_X1, ⟨tyX1, tyX1_ok⟩, nmX1⟩
theorem xf_X5_141 : xF RX5 141 1 1 := ⟨RX1, TX1, 11, rfl, by decide, tw_57, xlay_X1, ⟨tyX1, tyX1_ok⟩, nmX1⟩
theorem xf_X1_18 : xF RX1 18 1 2 := ⟨RX1, TX1, 11, rfl, by decide, tw_58, xlay_X1, ⟨tyX1, tyX1_ok⟩, nmX1⟩
theorem xf_X0_36 : xF RX0 36 1 2 := ⟨RX1, TX1, 11, rfl, by decide, tw_59, xlay_X1, ⟨tyX1, tyX1_ok⟩, nmX1⟩
theorem xf_X4_74 : xF RX4 74 1 2 := ⟨RX1, TX1, 11, rfl, by decide, tw_60, xlay_X1, ⟨tyX1, tyX1_ok⟩, nmX1⟩
theorem xf_X5_144 : xF RX5 144 1 2 := ⟨RX1, TX1, 11, rfl, by decide, tw_61, xlay_X1, ⟨tyX1, tyX1_ok⟩, nmX1⟩
theorem xf_X1_21 : xF RX1 21 1 3 := ⟨RX1, TX1, 11, rfl, by decide, tw_62, xlay_X1, ⟨tyX1, tyX1_ok⟩, nmX1⟩
theorem xf_X0_39 : xF RX0 39 1 3 := ⟨RX1, TX1, 11, rfl, by decide, tw_63, xlay_X1, ⟨tyX1, tyX1_ok⟩, nmX1⟩
theorem xf_X4_77 : xF RX4 77 1 3 := ⟨RX1, TX1, 11, rfl, by decide, tw_64, xlay_X1, ⟨tyX1, tyX1_ok⟩, nmX1⟩
theorem xf_X5_151 : xF RX5 151 1 3 := ⟨RX1, TX1, 11, rfl, by decide, tw_65, xlay_X1, ⟨tyX1, tyX1_ok⟩, nmX1⟩
theorem xf_X1_24 : xF RX1 24 1 4 := ⟨RX1, TX1, 11, rfl, by decide, tw_66, xlay_X1, ⟨tyX1, tyX1_ok⟩, nmX1⟩
theorem xf_X4_80 : xF RX4 80 1 4 := ⟨RX1, TX1, 11, rfl, by decide, tw_67, xlay_X1, ⟨tyX1, tyX1_ok⟩, nmX1⟩
theorem xf_X5_169 : xF RX5 169 1 4 := ⟨RX1, TX1, 11, rfl, by decide, tw_68, xlay_X1, ⟨tyX1, tyX1_ok⟩, nmX1⟩
theorem xf_X1_27 : xF RX1 27 1 5 := ⟨RX1, TX1, 11, rfl, by decide, tw_69, xlay_X1, ⟨tyX1, tyX1_ok⟩, nmX1⟩
theorem xf_X5_123 : xF RX5 123 1 5 := ⟨RX1, TX1, 11, rfl, by decide, tw_70, xlay_X1, ⟨tyX1, tyX1_ok⟩, nmX1⟩
theorem xf_X4_42 : xF RX4 42 1 6 := ⟨RX1, TX1, 11, rfl, by decide, tw_71, xlay_X1, ⟨tyX1, tyX1_ok⟩, nmX1⟩
theorem xf_X1_47 : xF RX1 47 1 6 := ⟨RX1, TX1, 11, rfl, by decide, tw_72, xlay_X1, ⟨tyX1, tyX1_ok⟩, nmX1⟩
theorem xf_X5_242 : xF RX5 242 1 6 := ⟨RX1, TX1, 11, rfl, by decide, tw_73, xlay_X1, ⟨tyX1, tyX1_ok⟩, nmX1⟩
theorem xf_X4_45 : xF RX4 45 1 7 := ⟨RX1, TX1, 11, rfl, by decide, tw_74, xlay_X1, ⟨tyX1, tyX1_ok⟩, nmX1⟩
theorem xf_X1_50 : xF RX1 50 1 7 := ⟨RX1, TX1, 11, rfl, by decide, tw_75, xlay_X1, ⟨tyX1, tyX1_ok⟩, nmX1⟩
theorem xf_X5_245 : xF RX5 245 1 7 := ⟨RX1, TX1, 11, rfl, by decide, tw_76, xlay_X1, ⟨tyX1, tyX1_ok⟩, nmX1⟩
theorem xf_X1_31 : xF RX1 31 1 8 := ⟨RX1, TX1, 11, rfl, by decide, tw_77, xlay_X1, ⟨tyX1, tyX1_ok⟩, nmX1⟩
theorem xf_X2_28 : xF RX2 28 1 8 := ⟨RX1, TX1, 11, rfl, by decide, tw_78, xlay_X1, ⟨tyX1, tyX1_ok⟩, nmX1⟩
theorem xf_X0_45 : xF RX0 45 1 8 := ⟨RX1, TX1, 11, rfl, by decide, tw_79, xlay_X1, ⟨tyX1, tyX1_ok⟩, nmX1⟩
theorem xf_X5_128 : xF RX5 128 1 8 := ⟨RX1, TX1, 11, rfl, by decide, tw_80, xlay_X1, ⟨tyX1, tyX1_ok⟩, nmX1⟩
theorem xf_X2_21 : xF RX2 21 1 9 := ⟨RX1, TX1, 11, rfl, by decide, tw_81, xlay_X1, ⟨tyX1, tyX1_ok⟩, nmX1⟩
theorem xf_X1_35 : xF RX1 35 1 9 := ⟨RX1, TX1, 11, rfl, by decide, tw_82, xlay_X1, ⟨tyX1, tyX1_ok⟩, nmX1⟩
theorem xf_X4_48 : xF RX4 48 1 9 := ⟨RX1, TX1, 11, rfl, by decide, tw_83, xlay_X1, ⟨tyX1, tyX1_ok⟩, nmX1⟩
theorem xf_X5_119 : xF RX5 119 1 9 := ⟨RX1, TX1, 11, rfl, by decide, tw_84, xlay_X1, ⟨tyX1, tyX1_ok⟩, nmX1⟩
theorem xf_X1_38 : xF RX1 38 1 10 := ⟨RX1, TX1, 11, rfl, by decide, tw_85, xlay_X1, ⟨tyX1, tyX1_ok⟩, nmX1⟩
theorem xf_X0_42 : xF RX0 42 1 10 := ⟨RX1, TX1, 11, rfl, by decide, tw_86, xlay_X1, ⟨tyX1, tyX1_ok⟩, nmX1⟩
theorem xf_X5_160 : xF RX5 160 1 10 := ⟨RX1, TX1, 11, rfl, by decide, tw_87, xlay_X1, ⟨tyX1, tyX1_ok⟩, nmX1⟩
theorem xf_X0_9 : xF RX0 9 0 0 := ⟨RX0, TX0, 6, rfl, by decide, tw_118, xlay_X0, ⟨tyX0, tyX0_ok⟩, nmX0⟩
theorem xf_X0_15 : xF RX0 15 0 1 := ⟨RX0, TX0, 6, rfl, by decide, tw_119, xlay_X0, ⟨tyX0, tyX0_ok⟩, nmX0⟩
theorem xf_X0_18 : xF RX0 18 0 2 := ⟨RX0, TX0, 6, rfl, by decide, tw_120, xlay_X0, ⟨tyX0, tyX0_ok⟩, nmX0⟩
theorem xf_X0_21 : xF RX0 21 0 3 := ⟨RX0, TX0, 6, rfl, by decide, tw_121, xlay_X0, ⟨tyX0, tyX0_ok⟩, nmX0⟩
theorem xf_X0_28 : xF RX0 28 0 4 := ⟨RX0, TX0, 6, rfl, by decide, tw_122, xlay_X0, ⟨tyX0, tyX0_ok⟩, nmX0⟩
theorem xf_X0_24 : xF RX0 24 0 5 := ⟨RX0, TX0, 6, rfl, by decide, tw_123, xlay_X0, ⟨tyX0, tyX0_ok⟩, nmX0⟩
theorem xf_X5_163 : xF RX5 163 0 5 := ⟨RX0, TX0, 6, rfl, by decide, tw_124, xlay_X0, ⟨tyX0, tyX0_ok⟩, nmX0⟩
theorem xf_X2_9 : xF RX2 9 2 0 := ⟨RX2, TX2, 4, rfl, by decide, tw_144, xlay_X2, ⟨tyX2, tyX2_ok⟩, nmX2⟩
theorem xf_X2_15 : xF RX2 15 2 1 := ⟨RX2, TX2, 4, rfl, by decide, tw_145, xlay_X2, ⟨tyX2, tyX2_ok⟩, nmX2⟩
theorem xf_X2_18 : xF RX2 18 2 2 := ⟨RX2, TX2, 4, rfl, by decide, tw_146, xlay_X2, ⟨tyX2, tyX2_ok⟩, nmX2⟩
theorem xf_X2_27 : xF RX2 27 2 3 := ⟨RX2, TX2, 4, rfl, by decide, tw_147, xlay_X2, ⟨tyX2, tyX2_ok⟩, nmX2⟩
theorem xf_X3_9 : xF RX3 9 3 0 := ⟨RX3, TX3, 3, rfl, by decide, tw_162, xlay_X3, ⟨tyX3, tyX3_ok⟩, nmX3⟩
theorem xf_X5_82 : xF RX5 82 3 0 := ⟨RX3, TX3, 3, rfl, by decide, tw_163, xlay_X3, ⟨tyX3, tyX3_ok⟩, nmX3⟩
theorem xf_X3_15 : xF RX3 15 3 1 := ⟨RX3, TX3, 3, rfl, by decide, tw_164, xlay_X3, ⟨tyX3, tyX3_ok⟩, nmX3⟩
theorem xf_X5_76 : xF RX5 76 3 1 := ⟨RX3, TX3, 3, rfl, by decide, tw_165, xlay_X3, ⟨tyX3, tyX3_ok⟩, nmX3⟩
theorem xf_X3_19 : xF RX3 19 3 2 := ⟨RX3, TX3, 3, rfl, by decide, tw_166, xlay_X3, ⟨tyX3, tyX3_ok⟩, nmX3⟩
theorem xf_X5_79 : xF RX5 79 3 2 := ⟨RX3, TX3, 3, rfl, by decide, tw_167, xlay_X3, ⟨tyX3, tyX3_ok⟩, nmX3⟩
theorem xf_X5_11 : xF RX5 11 5 0 := ⟨RX5, TX5, 10, rfl, by decide, tw_175, xlay_X5, ⟨tyX5, tyX5_ok⟩, nmX5⟩
theorem xf_X5_18 : xF RX5 18 5 1 := ⟨RX5, TX5, 10, rfl, by decide, tw_176, xlay_X5, ⟨tyX5, tyX5_ok⟩, nmX5⟩
theorem xf_X5_25 : xF RX5 25 5 2 := ⟨RX5, TX5, 10, rfl, by decide, tw_177, xlay_X5, ⟨tyX5, tyX5_ok⟩, nmX5⟩
theorem xf_X5_29 : xF RX5 29 5 3 := ⟨RX5, TX5, 10, rfl, by decide, tw_178, xlay_X5, ⟨tyX5, tyX5_ok⟩, nmX5⟩
theorem xf_X5_32 : xF RX5 32 5 4 := ⟨RX5, TX5, 10, rfl, by decide, tw_179, xlay_X5, ⟨tyX5, tyX5_ok⟩, nmX5⟩
theorem xf_X5_39 : xF RX5 39 5 5 := ⟨RX5, TX5, 10, rfl, by decide, tw_180, xlay_X5, ⟨tyX5, tyX5_ok⟩, nmX5⟩
theorem xf_X5_46 : xF RX5 46 5 6 := ⟨RX5, TX5, 10, rfl, by decide, tw_181, xlay_X5, ⟨tyX5, tyX5_ok⟩, nmX5⟩
theorem xf_X5_50 : xF RX5 50 5 7 := ⟨RX5, TX5, 10, rfl, by decide, tw_182, xlay_X5, ⟨tyX5, tyX5_ok⟩, nmX5⟩
theorem xf_X5_232 : xF RX5 232 5 8 := ⟨RX5, TX5, 10, rfl, by decide, tw_183, xlay_X5, ⟨tyX5, tyX5_ok⟩, nmX5⟩
theorem xf_X5_68 : xF RX5 68 5 9 := ⟨RX5, TX5, 10, rfl, by decide, tw_184, xlay_X5, ⟨tyX5, tyX5_ok⟩, nmX5⟩
theorem xf_X6_7 : xF RX6 7 6 0 := ⟨RX6, TX6, 23, rfl, by decide, tw_585, xlay_X6, ⟨tyX6, tyX6_ok⟩, nmX6⟩
theorem xf_X6_13 : xF RX6 13 6 1 := ⟨RX6, TX6, 23, rfl, by decide, tw_586, xlay_X6, ⟨tyX6, tyX6_ok⟩, nmX6⟩
theorem xf_X6_16 : xF RX6 16 6 2 := ⟨RX6, TX6, 23, rfl, by decide, tw_587, xlay_X6, ⟨tyX6, tyX6_ok⟩, nmX6⟩
theorem xf_X6_50 : xF RX6 50 6 3 := ⟨RX6, TX6, 23, rfl, by decide, tw_588, xlay_X6, ⟨tyX6, tyX6_ok⟩, nmX6⟩
theorem xf_X6_19 : xF RX6 19 6 4 := ⟨RX6, TX6, 23, rfl, by decide, tw_589, xlay_X6, ⟨tyX6, tyX6_ok⟩, nmX6⟩
theorem xf_X6_22 : xF RX6 22 6 5 := ⟨RX6, TX6, 23, rfl, by decide, tw_590, xlay_X6, ⟨tyX6, tyX6_ok⟩, nmX6⟩
theorem xf_X6_25 : xF RX6 25 6 6 := ⟨RX6, TX6, 23, rfl, by decide, tw_591, xlay_X6, ⟨tyX6, tyX6_ok⟩, nmX6⟩
theorem xf_X6_28 : xF RX6 28 6 7 := ⟨RX6, TX6, 23, rfl, by decide, tw_592, xlay_X6, ⟨tyX6, tyX6_ok⟩, nmX6⟩
theorem xf_X6_136 : xF RX6 136 6 8 := ⟨RX6, TX6, 23, rfl, by decide, tw_593, xlay_X6, ⟨tyX6, tyX6_ok⟩, nmX6⟩
theorem xf_X6_31 : xF RX6 31 6 9 := ⟨RX6, TX6, 23, rfl, by decide, tw_594, xlay_X6, ⟨tyX6, tyX6_ok⟩, nmX6⟩
theorem xf_X6_34 : xF RX6 34 6 10 := ⟨RX6, TX6, 23, rfl, by decide, tw_595, xlay_X6, ⟨tyX6, tyX6_ok⟩, nmX6⟩
theorem xf_X6_38 : xF RX6 38 6 11 := ⟨RX6, TX6, 23, rfl, by decide, tw_596, xlay_X6, ⟨tyX6, tyX6_ok⟩, nmX6⟩
theorem xf_X6_77 : xF RX6 77 6 12 := ⟨RX6, TX6, 23, rfl, by decide, tw_597, xlay_X6, ⟨tyX6, tyX6_ok⟩, nmX6⟩
theorem xf_X6_128 : xF RX6 128 6 13 := ⟨RX6, TX6, 23, rfl, by decide, tw_598, xlay_X6, ⟨tyX6, tyX6_ok⟩, nmX6⟩
theorem xf_X6_41 : xF RX6 41 6 14 := ⟨RX6, TX6, 23, rfl, by decide, tw_599, xlay_X6, ⟨tyX6, tyX6_ok⟩, nmX6⟩
theorem xf_X6_218 : xF RX6 218 6 15 := ⟨RX6, TX6, 23, rfl, by decide, tw_600, xlay_X6, ⟨tyX6, tyX6_ok⟩, nmX6⟩
theorem xf_X6_81 : xF RX6 81 6 16 := ⟨RX6, TX6, 23, rfl, by decide, tw_601, xlay_X6, ⟨tyX6, tyX6_ok⟩, nmX6⟩
theorem xf_X6_84 : xF RX6 84 6 17 := ⟨RX6, TX6, 23, rfl, by decide, tw_602, xlay_X6, ⟨tyX6, tyX6_ok⟩, nmX6⟩
theorem xf_X6_102 : xF RX6 102 6 18 := ⟨RX6, TX6, 23, rfl, by decide, tw_603, xlay_X6, ⟨tyX6, tyX6_ok⟩, nmX6⟩
theorem xf_X6_91 : xF RX6 91 6 19 := ⟨RX6, TX6, 23, rfl, by decide, tw_604, xlay_X6, ⟨tyX6, tyX6_ok⟩, nmX6⟩
theorem xf_X6_105 : xF RX6 105 6 20 := ⟨RX6, TX6, 23, rfl, by decide, tw_605, xlay_X6, ⟨tyX6, tyX6_ok⟩, nmX6⟩
theorem xf_X6_44 : xF RX6 44 6 21 := ⟨RX6, TX6, 23, rfl, by decide, tw_606, xlay_X6, ⟨tyX6, tyX6_ok⟩, nmX6⟩
theorem xf_X6_47 : xF RX6 47 6 22 := ⟨RX6, TX6, 23, rfl, by decide, tw_607, xlay_X6, ⟨tyX6, tyX6_ok⟩, nmX6⟩
theorem xt_X0_0 : xFt 0 0 true (.array .int) := ⟨rfl, by decide +kernel, fun _ => rfl⟩
theorem xt_X0_1 : xFt 0 1 true (.array .int) := ⟨rfl, by decide +kernel, fun _ => rfl⟩
theorem xt_X0_2 : xFt 0 2 true (.array .int) := ⟨rfl, by decide +kernel, fun _ => rfl⟩
theorem xt_X0_3 : xFt 0 3 true (.array .int) := ⟨rfl, by decide +kernel, fun _ => rfl⟩
theorem xt_X0_4 : xFt 0 4 false .int := ⟨rfl, by decide +kernel, fun h => by cases h⟩
theorem xt_X0_5 : xFt 0 5 false .int := ⟨rfl, by decide +kernel, fun h => by cases h⟩
theorem xt_X1_0 : xFt 1 0 true (.array .int) := ⟨rfl, by decide +kernel, fun _ => rfl⟩
theorem xt_X1_1 : xFt 1 1 true (.array .int) := ⟨rfl, by decide +kernel, fun _ => rfl⟩
theorem xt_X1_2 : xFt 1 2 true (.array .int) := ⟨rfl, by decide +kernel, fun _ => rfl⟩
theorem xt_X1_3 : xFt 1 3 true (.array .int) := ⟨rfl, by decide +kernel, fun _ => rfl⟩
theorem xt_X1_4 : xFt 1 4 true (.array .int) := ⟨rfl, by decide +kernel, fun _ => rfl⟩
theorem xt_X1_5 : xFt 1 5 false .boolean := ⟨rfl, by decide +kernel, fun h => by cases h⟩
theorem xt_X1_6 : xFt 1 6 false .int := ⟨rfl, by decide +kernel, fun h => by cases h⟩
theorem xt_X1_7 : xFt 1 7 false .int := ⟨rfl, by decide +kernel, fun h => by cases h⟩
theorem xt_X1_8 : xFt 1 8 false .int := ⟨rfl, by decide +kernel, fun h => by cases h⟩
theorem xt_X1_9 : xFt 1 9 false .int := ⟨rfl, by decide +kernel, fun h => by cases h⟩
theorem xt_X1_10 : xFt 1 10 false .int := ⟨rfl, by decide +kernel, fun h => by cases h⟩
theorem xt_X2_0 : xFt 2 0 true (.array .int) := ⟨rfl, by decide +kernel, fun _ => rfl⟩
theorem xt_X2_1 : xFt 2 1 true (.array .int) := ⟨rfl, by decide +kernel, fun _ => rfl⟩
theorem xt_X2_2 : xFt 2 2 true (.array .int) := ⟨rfl, by decide +kernel, fun _ => rfl⟩
theorem xt_X2_3 : xFt 2 3 false .int := ⟨rfl, by decide +kernel, fun h => by cases h⟩
theorem xt_X3_0 : xFt 3 0 true (.array .int) := ⟨rfl, by decide +kernel, fun _ => rfl⟩
theorem xt_X3_1 : xFt 3 1 false .int := ⟨rfl, by decide +kernel, fun h => by cases h⟩
theorem xt_X3_2 : xFt 3 2 false .int := ⟨rfl, by decide +kernel, fun h => by cases h⟩
theorem xt_X4_0 : xFt 4 0 true (.array .int) := ⟨rfl, by decide +kernel, fun _ => rfl⟩
theorem xt_X4_1 : xFt 4 1 false .int := ⟨rfl, by decide +kernel, fun h => by cases h⟩
theorem xt_X4_2 : xFt 4 2 false .int := ⟨rfl, by decide +kernel, fun h => by cases h⟩
theorem xt_X4_3 : xFt 4 3 false .int := ⟨rfl, by decide +kernel, fun h => by cases h⟩
theorem xt_X5_0 : xFt 5 0 true (.array (.object "HammockReach$Row")) := ⟨rfl, by decide +kernel, fun _ => rfl⟩
theorem xt_X5_1 : xFt 5 1 true (.object "HammockReach$Tape") := ⟨rfl, by decide +kernel, fun _ => rfl⟩
theorem xt_X5_2 : xFt 5 2 true (.object "HammockReach$Forest") := ⟨rfl, by decide +kernel, fun _ => rfl⟩
theorem xt_X5_3 : xFt 5 3 true (.object "HammockReach$Forest") := ⟨rfl, by decide +kernel, fun _ => rfl⟩
theorem xt_X5_4 : xFt 5 4 true (.array (.object "HammockReach$Forest")) := ⟨rfl, by decide +kernel, fun _ => rfl⟩
theorem xt_X5_5 : xFt 5 5 true (.object "HammockReach$Acts") := ⟨rfl, by decide +kernel, fun _ => rfl⟩
theorem xt_X5_6 : xFt 5 6 true (.object "HammockReach$Outlook") := ⟨rfl, by decide +kernel, fun _ => rfl⟩
theorem xt_X5_7 : xFt 5 7 true (.array .int) := ⟨rfl, by decide +kernel, fun _ => rfl⟩
theorem xt_X5_8 : xFt 5 8 false .int := ⟨rfl, by decide +kernel, fun h => by cases h⟩
theorem xt_X5_9 : xFt 5 9 false .int := ⟨rfl, by decide +kernel, fun h => by cases h⟩
theorem xt_X6_0 : xFt 6 0 true (.array .int) := ⟨rfl, by decide +kernel, fun _ => rfl⟩
theorem xt_X6_1 : xFt 6 1 true (.array .int) := ⟨rfl, by decide +kernel, fun _ => rfl⟩
theorem xt_X6_2 : xFt 6 2 true (.array .int) := ⟨rfl, by decide +kernel, fun _ => rfl⟩
theorem xt_X6_3 : xFt 6 3 false .int := ⟨rfl, by decide +kernel, fun h => by cases h⟩
theorem xt_X6_4 : xFt 6 4 true (.array .int) := ⟨rfl, by decide +kernel, fun _ => rfl⟩
theorem xt_X6_5 : xFt 6 5 true (.array .int) := ⟨rfl, by decide +kernel, fun _ => rfl⟩
theorem xt_X6_6 : xFt 6 6 true (.array .int) := ⟨rfl, by decide +kernel, fun _ => rfl⟩
theorem xt_X6_7 : xFt 6 7 true (.array .int) := ⟨rfl, by decide +kernel, fun _ => rfl⟩
theorem xt_X6_8 : xFt 6 8 false .int := ⟨rfl, by decide +kernel, fun h => by cases h⟩
theorem xt_X6_9 : xFt 6 9 true (.array .int) := ⟨rfl, by decide +kernel, fun _ => rfl⟩
theorem xt_X6_10 : xFt 6 10 true (.array .boolean) := ⟨rfl, by decide +kernel, fun _ => rfl⟩
theorem xt_X6_11 : xFt 6 11 true (.array .int) := ⟨rfl, by decide +kernel, fun _ => rfl⟩
theorem xt_X6_12 : xFt 6 12 false .int := ⟨rfl, by decide +kernel, fun h => by cases h⟩
theorem xt_X6_13 : xFt 6 13 false .int := ⟨rfl, by decide +kernel, fun h => by cases h⟩
theorem xt_X6_14 : xFt 6 14 true (.array .int) := ⟨rfl, by decide +kernel, fun _ => rfl⟩
theorem xt_X6_15 : xFt 6 15 false .int := ⟨rfl, by decide +kernel, fun h => by cases h⟩
theorem xt_X6_16 : xFt 6 16 false .int := ⟨rfl, by decide +kernel, fun h => by cases h⟩
theorem xt_X6_17 : xFt 6 17 false .int := ⟨rfl, by decide +kernel, fun h => by cases h⟩
theorem xt_X6_18 : xFt 6 18 false .int := ⟨rfl, by decide +kernel, fun h => by cases h⟩
theorem xt_X6_19 : xFt 6 19 false .int := ⟨rfl, by decide +kernel, fun h => by cases h⟩
theorem xt_X6_20 : xFt 6 20 false .int := ⟨rfl, by decide +kernel, fun h => by cases h⟩
theorem xt_X6_21 : xFt 6 21 true (.array .int) := ⟨rfl, by decide +kernel, fun _ => rfl⟩
theorem xt_X6_22 : xFt 6 22 true (.array .int) := ⟨rfl, by decide +kernel, fun _ => rfl⟩
theorem xm_X0_init : xM RX0 yX0_init cX0_init 1 none 0 := ⟨tw_116, tw_4, by decide +kernel⟩
theorem xm_X0_forget : xMV RX0 yX0_forget cX0_forget 1 none 0 := ⟨⟨tw_314, tw_4, by decide +kernel⟩, tw_312, tw_313⟩
theorem xm_X0_keep : xMV RX0 yX0_keep cX0_keep 6 none 4 := ⟨⟨tw_327, tw_4, by decide +kernel⟩, tw_325, tw_326⟩
theorem xm_X0_takeBack : xMV RX0 yX0_takeBack cX0_takeBack 4 none 1 := ⟨⟨tw_380, tw_4, by decide +kernel⟩, tw_378, tw_379⟩
theorem xm_X1_init : xM RX1 yX1_init cX1_init 1 none 0 := ⟨tw_49, tw_3, by decide +kernel⟩
theorem xm_X1_begin : xMV RX1 yX1_begin cX1_begin 1 none 0 := ⟨⟨tw_265, tw_3, by decide +kernel⟩, tw_263, tw_264⟩
theorem xm_X1_takeFrom : xMV RX1 yX1_takeFrom cX1_takeFrom 2 none 1 := ⟨⟨tw_309, tw_3, by decide +kernel⟩, tw_307, tw_308⟩
theorem xm_X1_isCut : xMV RX1 yX1_isCut cX1_isCut 2 (some .boolean) 1 := ⟨⟨tw_339, tw_3, by decide +kernel⟩, tw_337, tw_338⟩
theorem xm_X1_dip : xMV RX1 yX1_dip cX1_dip 5 (some .int) 2 := ⟨⟨tw_343, tw_3, by decide +kernel⟩, tw_341, tw_342⟩
theorem xm_X1_isDown : xMV RX1 yX1_isDown cX1_isDown 3 (some .boolean) 2 := ⟨⟨tw_335, tw_3, by decide +kernel⟩, tw_333, tw_334⟩
theorem xm_X1_downBits : xMV RX1 yX1_downBits cX1_downBits 4 (some .int) 1 := ⟨⟨tw_331, tw_3, by decide +kernel⟩, tw_329, tw_330⟩
theorem xm_X1_place : xMV RX1 yX1_place cX1_place 3 (some .int) 2 := ⟨⟨tw_355, tw_3, by decide +kernel⟩, tw_353, tw_354⟩
theorem xm_X1_offset : xMV RX1 yX1_offset cX1_offset 3 (some .int) 2 := ⟨⟨tw_359, tw_3, by decide +kernel⟩, tw_358, (TT_sel 10 (by decide +kernel) rfl)⟩
theorem xm_X1_swung : xMS RX1 yX1_swung cX1_swung 3 (some .int) 2 := ⟨⟨tw_362, tw_3, by decide +kernel⟩, tw_361⟩
theorem xm_X1_spot : xMV RX1 yX1_spot cX1_spot 3 (some .int) 2 := ⟨⟨tw_407, tw_3, by decide +kernel⟩, tw_405, tw_406⟩
theorem xm_X1_areNear : xMV RX1 yX1_areNear cX1_areNear 3 (some .boolean) 2 := ⟨⟨tw_412, tw_3, by decide +kernel⟩, tw_410, tw_411⟩
theorem xm_X1_nearBits : xMV RX1 yX1_nearBits cX1_nearBits 6 (some .int) 2 := ⟨⟨tw_403, tw_3, by decide +kernel⟩, tw_401, tw_402⟩
theorem xm_X2_init : xM RX2 yX2_init cX2_init 1 none 0 := ⟨tw_142, tw_5, by decide +kernel⟩
theorem xm_X2_foresee : xMV RX2 yX2_foresee cX2_foresee 6 none 2 := ⟨⟨tw_434, tw_5, by decide +kernel⟩, tw_432, tw_433⟩
theorem xm_X2_foreseeAnew : xMV RX2 yX2_foreseeAnew cX2_foreseeAnew 6 none 3 := ⟨⟨tw_477, tw_5, by decide +kernel⟩, tw_475, tw_476⟩
theorem xm_X2_link : xMV RX2 yX2_link cX2_link 6 none 3 := ⟨⟨tw_439, tw_5, by decide +kernel⟩, tw_438, (TT_sel 12 (by decide +kernel) rfl)⟩
theorem xm_X2_spread : xMV RX2 yX2_spread cX2_spread 6 (some .int) 3 := ⟨⟨tw_448, tw_5, by decide +kernel⟩, tw_447, (TT_sel 13 (by decide +kernel) rfl)⟩
theorem xm_X2_holders : xMV RX2 yX2_holders cX2_holders 5 (some .int) 2 := ⟨⟨tw_465, tw_5, by decide +kernel⟩, tw_463, tw_464⟩
theorem xm_X2_arrival : xMV RX2 yX2_arrival cX2_arrival 7 (some .int) 4 := ⟨⟨tw_444, tw_5, by decide +kernel⟩, tw_442, tw_443⟩
theorem xm_X2_fewestHands : xMV RX2 yX2_fewestHands cX2_fewestHands 5 (some .int) 2 := ⟨⟨tw_457, tw_5, by decide +kernel⟩, tw_455, tw_456⟩
theorem xm_X3_init : xM RX3 yX3_init cX3_init 1 none 0 := ⟨tw_160, tw_6, by decide +kernel⟩
theorem xm_X3_begin : xMV RX3 yX3_begin cX3_begin 4 none 2 := ⟨⟨tw_225, tw_6, by decide +kernel⟩, tw_223, tw_224⟩
theorem xm_X3_narrowed : xMV RX3 yX3_narrowed cX3_narrowed 2 (some .int) 1 := ⟨⟨tw_233, tw_6, by decide +kernel⟩, tw_231, tw_232⟩
theorem xm_X3_hasSpan : xMV RX3 yX3_hasSpan cX3_hasSpan 3 (some .boolean) 2 := ⟨⟨tw_241, tw_6, by decide +kernel⟩, tw_239, tw_240⟩
theorem xm_X4_init : xM RX4 yX4_init cX4_init 1 none 0 := ⟨tw_25, tw_2, by decide +kernel⟩
theorem xm_X4_readInto : xMV RX4 yX4_readInto cX4_readInto 3 (some .boolean) 1 := ⟨⟨tw_261, tw_2, by decide +kernel⟩, tw_259, tw_260⟩
theorem xm_X4_readLaw : xMV RX4 yX4_readLaw cX4_readLaw 2 (some .boolean) 1 := ⟨⟨tw_269, tw_2, by decide +kernel⟩, tw_268, (TT_sel 1 (by decide +kernel) rfl)⟩
theorem xm_X4_readHammock : xMV RX4 yX4_readHammock cX4_readHammock 4 (some .boolean) 1 := ⟨⟨tw_293, tw_2, by decide +kernel⟩, tw_292, (TT_sel 6 (by decide +kernel) rfl)⟩
theorem xm_X4_readTrees : xMV RX4 yX4_readTrees cX4_readTrees 3 (some .boolean) 2 := ⟨⟨tw_300, tw_2, by decide +kernel⟩, tw_299, (TT_sel 7 (by decide +kernel) rfl)⟩
theorem xm_X4_readLoad : xMV RX4 yX4_readLoad cX4_readLoad 3 (some .boolean) 2 := ⟨⟨tw_304, tw_2, by decide +kernel⟩, tw_303, (TT_sel 8 (by decide +kernel) rfl)⟩
theorem xm_X4_readSign : xMV RX4 yX4_readSign cX4_readSign 2 (some .boolean) 1 := ⟨⟨tw_273, tw_2, by decide +kernel⟩, tw_272, (TT_sel 2 (by decide +kernel) rfl)⟩
theorem xm_X4_readNumber : xMV RX4 yX4_readNumber cX4_readNumber 6 (some .int) 2 := ⟨⟨tw_286, tw_2, by decide +kernel⟩, tw_285, (TT_sel 5 (by decide +kernel) rfl)⟩
theorem xm_X4_refuse : xMV RX4 yX4_refuse cX4_refuse 2 (some .boolean) 1 := ⟨⟨tw_282, tw_2, by decide +kernel⟩, tw_281, (TT_sel 4 (by decide +kernel) rfl)⟩
theorem xm_X4_byteAt : xMV RX4 yX4_byteAt cX4_byteAt 2 (some .int) 1 := ⟨⟨tw_277, tw_2, by decide +kernel⟩, tw_276, (TT_sel 3 (by decide +kernel) rfl)⟩
theorem xm_X4_isFigure : xMS RX4 yX4_isFigure cX4_isFigure 1 (some .boolean) 1 := ⟨⟨tw_289, tw_2, by decide +kernel⟩, tw_288⟩
theorem xm_X4_sortOf : xMS RX4 yX4_sortOf cX4_sortOf 1 (some .int) 1 := ⟨⟨tw_296, tw_2, by decide +kernel⟩, tw_295⟩
theorem xm_X5_init : xM RX5 yX5_init cX5_init 2 none 0 := ⟨tw_15, tw_1, by decide +kernel⟩
theorem xm_X5_row : xMV RX5 yX5_row cX5_row 4 (some .int) 3 := ⟨⟨tw_209, tw_1, by decide +kernel⟩, tw_207, tw_208⟩
theorem xm_X5_set : xMV RX5 yX5_set cX5_set 5 (some .int) 3 := ⟨⟨tw_229, tw_1, by decide +kernel⟩, tw_227, tw_228⟩
theorem xm_X5_copy : xMV RX5 yX5_copy cX5_copy 8 (some .int) 5 := ⟨⟨tw_237, tw_1, by decide +kernel⟩, tw_235, tw_236⟩
theorem xm_X5_drop : xMV RX5 yX5_drop cX5_drop 3 (some .int) 1 := ⟨⟨tw_248, tw_1, by decide +kernel⟩, tw_246, tw_247⟩
theorem xm_X5_feed : xMV RX5 yX5_feed cX5_feed 2 (some .int) 1 := ⟨⟨tw_252, tw_1, by decide +kernel⟩, tw_250, tw_251⟩
theorem xm_X5_forest : xMV RX5 yX5_forest cX5_forest 2 (some .int) 0 := ⟨⟨tw_257, tw_1, by decide +kernel⟩, tw_255, tw_256⟩
theorem xm_X5_fault : xMV RX5 yX5_fault cX5_fault 1 (some .int) 0 := ⟨⟨tw_318, tw_1, by decide +kernel⟩, tw_316, tw_317⟩
theorem xm_X5_minutes : xMV RX5 yX5_minutes cX5_minutes 3 (some .int) 1 := ⟨⟨tw_322, tw_1, by decide +kernel⟩, tw_320, tw_321⟩
theorem xm_X5_sling : xMV RX5 yX5_sling cX5_sling 4 (some .int) 3 := ⟨⟨tw_347, tw_1, by decide +kernel⟩, tw_345, tw_346⟩
theorem xm_X5_load : xMV RX5 yX5_load cX5_load 3 (some .int) 2 := ⟨⟨tw_366, tw_1, by decide +kernel⟩, tw_364, tw_365⟩
theorem xm_X5_cord : xMV RX5 yX5_cord cX5_cord 3 (some .int) 2 := ⟨⟨tw_371, tw_1, by decide +kernel⟩, tw_369, tw_370⟩
theorem xm_X5_undo : xMV RX5 yX5_undo cX5_undo 1 (some .int) 0 := ⟨⟨tw_376, tw_1, by decide +kernel⟩, tw_374, tw_375⟩
theorem xm_X5_hammock : xMV RX5 yX5_hammock cX5_hammock 3 (some .int) 2 := ⟨⟨tw_384, tw_1, by decide +kernel⟩, tw_382, tw_383⟩
theorem xm_X5_ahead : xMV RX5 yX5_ahead cX5_ahead 5 (some .int) 3 := ⟨⟨tw_388, tw_1, by decide +kernel⟩, tw_386, tw_387⟩
theorem xm_X5_down : xMV RX5 yX5_down cX5_down 2 (some .int) 1 := ⟨⟨tw_395, tw_1, by decide +kernel⟩, tw_393, tw_394⟩
theorem xm_X5_reach : xMV RX5 yX5_reach cX5_reach 3 (some .int) 2 := ⟨⟨tw_399, tw_1, by decide +kernel⟩, tw_397, tw_398⟩
theorem xm_X5_meet : xMV RX5 yX5_meet cX5_meet 4 (some .int) 2 := ⟨⟨tw_419, tw_1, by decide +kernel⟩, tw_417, tw_418⟩
theorem xm_X5_soonest : xMV RX5 yX5_soonest cX5_soonest 3 (some .int) 2 := ⟨⟨tw_430, tw_1, by decide +kernel⟩, tw_428, tw_429⟩
theorem xm_X5_hands : xMV RX5 yX5_hands cX5_hands 3 (some .int) 2 := ⟨⟨tw_453, tw_1, by decide +kernel⟩, tw_451, tw_452⟩
theorem xm_X5_everywhere : xMV RX5 yX5_everywhere cX5_everywhere 3 (some .int) 2 := ⟨⟨tw_461, tw_1, by decide +kernel⟩, tw_459, tw_460⟩
theorem xm_X5_stops : xMV RX5 yX5_stops cX5_stops 6 (some .int) 3 := ⟨⟨tw_469, tw_1, by decide +kernel⟩, tw_467, tw_468⟩
theorem xm_X5_toSling : xMV RX5 yX5_toSling cX5_toSling 10 (some .int) 4 := ⟨⟨tw_473, tw_1, by decide +kernel⟩, tw_471, tw_472⟩
theorem xm_X5_fits : xMV RX5 yX5_fits cX5_fits 7 (some .int) 5 := ⟨⟨tw_481, tw_1, by decide +kernel⟩, tw_479, tw_480⟩
theorem xm_X5_breaks : xMV RX5 yX5_breaks cX5_breaks 9 (some .int) 5 := ⟨⟨tw_505, tw_1, by decide +kernel⟩, tw_503, tw_504⟩
theorem xm_X5_image : xMV RX5 yX5_image cX5_image 2 (some .int) 1 := ⟨⟨tw_520, tw_1, by decide +kernel⟩, tw_518, tw_519⟩
theorem xm_X5_restore : xMV RX5 yX5_restore cX5_restore 2 (some .int) 1 := ⟨⟨tw_524, tw_1, by decide +kernel⟩, tw_522, tw_523⟩
theorem xm_X5_kind : xMV RX5 yX5_kind cX5_kind 2 (some .int) 1 := ⟨⟨tw_528, tw_1, by decide +kernel⟩, tw_526, tw_527⟩
theorem xm_X5_as : xMV RX5 yX5_as cX5_as 3 (some .int) 2 := ⟨⟨tw_532, tw_1, by decide +kernel⟩, tw_530, tw_531⟩
theorem xm_X5_ask : xMV RX5 yX5_ask cX5_ask 3 (some .int) 2 := ⟨⟨tw_541, tw_1, by decide +kernel⟩, tw_539, tw_540⟩
theorem xm_X5_trace : xMV RX5 yX5_trace cX5_trace 2 (some .int) 1 := ⟨⟨tw_560, tw_1, by decide +kernel⟩, tw_558, tw_559⟩
theorem xm_X5_count : xMV RX5 yX5_count cX5_count 2 (some .int) 1 := ⟨⟨tw_564, tw_1, by decide +kernel⟩, tw_562, tw_563⟩
theorem xm_X5_status : xMV RX5 yX5_status cX5_status 1 (some .int) 0 := ⟨⟨tw_578, tw_1, by decide +kernel⟩, tw_576, tw_577⟩
theorem xm_X5_isBelow : xMS RX5 yX5_isBelow cX5_isBelow 2 (some .boolean) 2 := ⟨⟨tw_215, tw_1, by decide +kernel⟩, tw_214⟩
theorem xm_X5_isRow : xMS RX5 yX5_isRow cX5_isRow 1 (some .boolean) 1 := ⟨⟨tw_212, tw_1, by decide +kernel⟩, tw_211⟩
theorem xm_X5_isAhead : xMS RX5 yX5_isAhead cX5_isAhead 1 (some .boolean) 1 := ⟨⟨tw_391, tw_1, by decide +kernel⟩, tw_390⟩
theorem xm_X5_isHammock : xMV RX5 yX5_isHammock cX5_isHammock 2 (some .boolean) 1 := ⟨⟨tw_351, tw_1, by decide +kernel⟩, tw_350, (TT_sel 9 (by decide +kernel) rfl)⟩
theorem xm_X5_areTwo : xMV RX5 yX5_areTwo cX5_areTwo 3 (some .boolean) 2 := ⟨⟨tw_423, tw_1, by decide +kernel⟩, tw_422, (TT_sel 11 (by decide +kernel) rfl)⟩
theorem xm_X5_finds : xMV RX5 yX5_finds cX5_finds 2 (some .int) 1 := ⟨⟨tw_220, tw_1, by decide +kernel⟩, tw_219, (TT_sel 0 (by decide +kernel) rfl)⟩
theorem xm_X5_countRows : xMV RX5 yX5_countRows cX5_countRows 3 (some .int) 0 := ⟨⟨tw_568, tw_1, by decide +kernel⟩, tw_567, (TT_sel 23 (by decide +kernel) rfl)⟩
theorem xm_X5_fittingKinds : xMV RX5 yX5_fittingKinds cX5_fittingKinds 7 (some .int) 4 := ⟨⟨tw_485, tw_1, by decide +kernel⟩, tw_484, (TT_sel 14 (by decide +kernel) rfl)⟩
theorem xm_X5_fittingSwings : xMV RX5 yX5_fittingSwings cX5_fittingSwings 7 (some .int) 4 := ⟨⟨tw_493, tw_1, by decide +kernel⟩, tw_492, (TT_sel 16 (by decide +kernel) rfl)⟩
theorem xm_X5_fittingWeights : xMV RX5 yX5_fittingWeights cX5_fittingWeights 7 (some .int) 4 := ⟨⟨tw_497, tw_1, by decide +kernel⟩, tw_496, (TT_sel 17 (by decide +kernel) rfl)⟩
theorem xm_X5_wasThere : xMV RX5 yX5_wasThere cX5_wasThere 6 (some .boolean) 4 := ⟨⟨tw_489, tw_1, by decide +kernel⟩, tw_488, (TT_sel 15 (by decide +kernel) rfl)⟩
theorem xm_X5_wasReached : xMV RX5 yX5_wasReached cX5_wasReached 6 (some .boolean) 4 := ⟨⟨tw_501, tw_1, by decide +kernel⟩, tw_500, (TT_sel 18 (by decide +kernel) rfl)⟩
theorem xm_X5_partsOf : xMV RX5 yX5_partsOf cX5_partsOf 5 (some .int) 2 := ⟨⟨tw_509, tw_1, by decide +kernel⟩, tw_508, (TT_sel 19 (by decide +kernel) rfl)⟩
theorem xm_X5_partsOfAll : xMV RX5 yX5_partsOfAll cX5_partsOfAll 3 (some .int) 0 := ⟨⟨tw_513, tw_1, by decide +kernel⟩, tw_512, (TT_sel 20 (by decide +kernel) rfl)⟩
theorem xm_X5_commonDivisor : xMS RX5 yX5_commonDivisor cX5_commonDivisor 6 (some .int) 2 := ⟨⟨tw_516, tw_1, by decide +kernel⟩, tw_515⟩
theorem xm_X5_isOfKind : xMS RX5 yX5_isOfKind cX5_isOfKind 4 (some .boolean) 2 := ⟨⟨tw_535, tw_1, by decide +kernel⟩, tw_534⟩
theorem xm_X5_nearestBody : xMS RX5 yX5_nearestBody cX5_nearestBody 5 (some .int) 2 := ⟨⟨tw_548, tw_1, by decide +kernel⟩, tw_547⟩
theorem xm_X5_answer : xMV RX5 yX5_answer cX5_answer 4 (some .int) 3 := ⟨⟨tw_545, tw_1, by decide +kernel⟩, tw_544, (TT_sel 21 (by decide +kernel) rfl)⟩
theorem xm_X5_body : xMV RX5 yX5_body cX5_body 5 (some .int) 3 := ⟨⟨tw_556, tw_1, by decide +kernel⟩, tw_555, (TT_sel 22 (by decide +kernel) rfl)⟩
theorem xm_X6_init : xM RX6 yX6_init cX6_init 2 none 0 := ⟨tw_583, tw_7, by decide +kernel⟩
theorem xm_X6_in : xMS RX6 yX6_in cX6_in 6 (some .boolean) 3 := ⟨⟨tw_666, tw_7, by decide +kernel⟩, tw_665⟩
theorem xm_X6_found : xMV RX6 yX6_found cX6_found 2 (some .int) 1 := ⟨⟨tw_672, tw_7, by decide +kernel⟩, tw_671, (TT_sel 24 (by decide +kernel) rfl)⟩
theorem xm_X6_well : xMV RX6 yX6_well cX6_well 2 (some .int) 1 := ⟨⟨tw_677, tw_7, by decide +kernel⟩, tw_676, (TT_sel 25 (by decide +kernel) rfl)⟩
theorem xm_X6_isRow : xMS RX6 yX6_isRow cX6_isRow 1 (some .boolean) 1 := ⟨⟨tw_662, tw_7, by decide +kernel⟩, tw_661⟩
theorem xm_X6_row : xMV RX6 yX6_row cX6_row 5 (some .int) 3 := ⟨⟨tw_659, tw_7, by decide +kernel⟩, tw_657, tw_658⟩
theorem xm_X6_set : xMV RX6 yX6_set cX6_set 4 (some .int) 3 := ⟨⟨tw_681, tw_7, by decide +kernel⟩, tw_679, tw_680⟩
theorem xm_X6_copy : xMV RX6 yX6_copy cX6_copy 8 (some .int) 5 := ⟨⟨tw_685, tw_7, by decide +kernel⟩, tw_683, tw_684⟩
theorem xm_X6_drop : xMV RX6 yX6_drop cX6_drop 3 (some .int) 1 := ⟨⟨tw_689, tw_7, by decide +kernel⟩, tw_687, tw_688⟩
theorem xm_X6_feed : xMV RX6 yX6_feed cX6_feed 2 (some .int) 1 := ⟨⟨tw_693, tw_7, by decide +kernel⟩, tw_691, tw_692⟩
theorem xm_X6_here : xMV RX6 yX6_here cX6_here 1 (some .int) 0 := ⟨⟨tw_711, tw_7, by decide +kernel⟩, tw_710, (TT_sel 28 (by decide +kernel) rfl)⟩
theorem xm_X6_step : xMV RX6 yX6_step cX6_step 1 none 0 := ⟨⟨tw_707, tw_7, by decide +kernel⟩, tw_706, (TT_sel 27 (by decide +kernel) rfl)⟩
theorem xm_X6_fails : xMV RX6 yX6_fails cX6_fails 2 (some .boolean) 1 := ⟨⟨tw_719, tw_7, by decide +kernel⟩, tw_718, (TT_sel 29 (by decide +kernel) rfl)⟩
theorem xm_X6_number : xMV RX6 yX6_number cX6_number 5 (some .boolean) 4 := ⟨⟨tw_723, tw_7, by decide +kernel⟩, tw_722, (TT_sel 30 (by decide +kernel) rfl)⟩
theorem xm_X6_sortOf : xMS RX6 yX6_sortOf cX6_sortOf 1 (some .int) 1 := ⟨⟨tw_730, tw_7, by decide +kernel⟩, tw_729⟩
theorem xm_X6_readsHammock : xMV RX6 yX6_readsHammock cX6_readsHammock 3 (some .boolean) 0 := ⟨⟨tw_727, tw_7, by decide +kernel⟩, tw_726, (TT_sel 31 (by decide +kernel) rfl)⟩
theorem xm_X6_reads : xMV RX6 yX6_reads cX6_reads 2 (some .boolean) 0 := ⟨⟨tw_703, tw_7, by decide +kernel⟩, tw_702, (TT_sel 26 (by decide +kernel) rfl)⟩
theorem xm_X6_forest : xMV RX6 yX6_forest cX6_forest 2 (some .int) 0 := ⟨⟨tw_699, tw_7, by decide +kernel⟩, tw_697, tw_698⟩
theorem xm_X6_fault : xMV RX6 yX6_fault cX6_fault 1 (some .int) 0 := ⟨⟨tw_738, tw_7, by decide +kernel⟩, tw_736, tw_737⟩
theorem xm_X6_copies : xMS RX6 yX6_copies cX6_copies 5 none 4 := ⟨⟨tw_734, tw_7, by decide +kernel⟩, tw_733⟩
theorem xm_X6_has : xMS RX6 yX6_has cX6_has 2 (some .boolean) 2 := ⟨⟨tw_761, tw_7, by decide +kernel⟩, tw_760⟩
theorem xm_X6_dip : xMS RX6 yX6_dip cX6_dip 5 (some .int) 3 := ⟨⟨tw_764, tw_7, by decide +kernel⟩, tw_763⟩
theorem xm_X6_swung : xMS RX6 yX6_swung cX6_swung 3 (some .int) 2 := ⟨⟨tw_779, tw_7, by decide +kernel⟩, tw_778⟩
theorem xm_X6_where : xMS RX6 yX6_where cX6_where 6 (some .int) 3 := ⟨⟨tw_776, tw_7, by decide +kernel⟩, tw_775⟩
theorem xm_X6_isDown : xMS RX6 yX6_isDown cX6_isDown 3 (some .boolean) 3 := ⟨⟨tw_758, tw_7, by decide +kernel⟩, tw_757⟩
theorem xm_X6_downOf : xMS RX6 yX6_downOf cX6_downOf 4 (some .int) 2 := ⟨⟨tw_755, tw_7, by decide +kernel⟩, tw_754⟩
theorem xm_X6_areNear : xMS RX6 yX6_areNear cX6_areNear 5 (some .boolean) 4 := ⟨⟨tw_821, tw_7, by decide +kernel⟩, tw_820⟩
theorem xm_X6_reachOf : xMS RX6 yX6_reachOf cX6_reachOf 5 (some .int) 3 := ⟨⟨tw_818, tw_7, by decide +kernel⟩, tw_817⟩
theorem xm_X6_spread : xMS RX6 yX6_spread cX6_spread 7 (some .int) 3 := ⟨⟨tw_848, tw_7, by decide +kernel⟩, tw_847⟩
theorem xm_X6_soonestOf : xMS RX6 yX6_soonestOf cX6_soonestOf 7 (some .int) 3 := ⟨⟨tw_833, tw_7, by decide +kernel⟩, tw_832⟩
theorem xm_X6_isForest : xMV RX6 yX6_isForest cX6_isForest 1 (some .boolean) 0 := ⟨⟨tw_746, tw_7, by decide +kernel⟩, tw_745, (TT_sel 32 (by decide +kernel) rfl)⟩
theorem xm_X6_isHammock : xMV RX6 yX6_isHammock cX6_isHammock 2 (some .boolean) 1 := ⟨⟨tw_772, tw_7, by decide +kernel⟩, tw_771, (TT_sel 34 (by decide +kernel) rfl)⟩
theorem xm_X6_isTwo : xMS RX6 yX6_isTwo cX6_isTwo 1 (some .boolean) 1 := ⟨⟨tw_791, tw_7, by decide +kernel⟩, tw_790⟩
theorem xm_X6_isSpan : xMS RX6 yX6_isSpan cX6_isSpan 1 (some .boolean) 1 := ⟨⟨tw_806, tw_7, by decide +kernel⟩, tw_805⟩
theorem xm_X6_remember : xMV RX6 yX6_remember cX6_remember 2 none 0 := ⟨⟨tw_752, tw_7, by decide +kernel⟩, tw_751, (TT_sel 33 (by decide +kernel) rfl)⟩
theorem xm_X6_minutes : xMV RX6 yX6_minutes cX6_minutes 3 (some .int) 1 := ⟨⟨tw_742, tw_7, by decide +kernel⟩, tw_740, tw_741⟩
theorem xm_X6_sling : xMV RX6 yX6_sling cX6_sling 4 (some .int) 3 := ⟨⟨tw_768, tw_7, by decide +kernel⟩, tw_766, tw_767⟩
theorem xm_X6_load : xMV RX6 yX6_load cX6_load 3 (some .int) 2 := ⟨⟨tw_783, tw_7, by decide +kernel⟩, tw_781, tw_782⟩
theorem xm_X6_cord : xMV RX6 yX6_cord cX6_cord 3 (some .int) 2 := ⟨⟨tw_788, tw_7, by decide +kernel⟩, tw_786, tw_787⟩
theorem xm_X6_undo : xMV RX6 yX6_undo cX6_undo 1 (some .int) 0 := ⟨⟨tw_795, tw_7, by decide +kernel⟩, tw_793, tw_794⟩
theorem xm_X6_hammock : xMV RX6 yX6_hammock cX6_hammock 3 (some .int) 2 := ⟨⟨tw_799, tw_7, by decide +kernel⟩, tw_797, tw_798⟩
theorem xm_X6_ahead : xMV RX6 yX6_ahead cX6_ahead 4 (some .int) 3 := ⟨⟨tw_803, tw_7, by decide +kernel⟩, tw_801, tw_802⟩
theorem xm_X6_down : xMV RX6 yX6_down cX6_down 2 (some .int) 1 := ⟨⟨tw_811, tw_7, by decide +kernel⟩, tw_809, tw_810⟩
theorem xm_X6_reach : xMV RX6 yX6_reach cX6_reach 3 (some .int) 2 := ⟨⟨tw_815, tw_7, by decide +kernel⟩, tw_813, tw_814⟩
theorem xm_X6_meet : xMV RX6 yX6_meet cX6_meet 4 (some .int) 2 := ⟨⟨tw_825, tw_7, by decide +kernel⟩, tw_823, tw_824⟩
theorem xm_X6_told : xMS RX6 yX6_told cX6_told 1 (some .int) 1 := ⟨⟨tw_837, tw_7, by decide +kernel⟩, tw_836⟩
theorem xm_X6_soonest : xMV RX6 yX6_soonest cX6_soonest 3 (some .int) 2 := ⟨⟨tw_830, tw_7, by decide +kernel⟩, tw_828, tw_829⟩
theorem xm_X6_hands : xMV RX6 yX6_hands cX6_hands 7 (some .int) 2 := ⟨⟨tw_841, tw_7, by decide +kernel⟩, tw_839, tw_840⟩
theorem xm_X6_everywhere : xMV RX6 yX6_everywhere cX6_everywhere 3 (some .int) 2 := ⟨⟨tw_845, tw_7, by decide +kernel⟩, tw_843, tw_844⟩
theorem xm_X6_layAside : xMV RX6 yX6_layAside cX6_layAside 1 none 0 := ⟨⟨tw_856, tw_7, by decide +kernel⟩, tw_855, (TT_sel 35 (by decide +kernel) rfl)⟩
theorem xm_X6_stops : xMV RX6 yX6_stops cX6_stops 6 (some .int) 3 := ⟨⟨tw_852, tw_7, by decide +kernel⟩, tw_850, tw_851⟩
theorem xm_X6_toSling : xMV RX6 yX6_toSling cX6_toSling 10 (some .int) 4 := ⟨⟨tw_860, tw_7, by decide +kernel⟩, tw_858, tw_859⟩
theorem xm_X6_fits : xMV RX6 yX6_fits cX6_fits 14 (some .int) 5 := ⟨⟨tw_864, tw_7, by decide +kernel⟩, tw_862, tw_863⟩
theorem xm_X6_breaks : xMV RX6 yX6_breaks cX6_breaks 16 (some .int) 5 := ⟨⟨tw_869, tw_7, by decide +kernel⟩, tw_867, tw_868⟩
theorem xm_X6_image : xMV RX6 yX6_image cX6_image 2 (some .int) 1 := ⟨⟨tw_874, tw_7, by decide +kernel⟩, tw_872, tw_873⟩
theorem xm_X6_restore : xMV RX6 yX6_restore cX6_restore 2 (some .int) 1 := ⟨⟨tw_878, tw_7, by decide +kernel⟩, tw_876, tw_877⟩
theorem xm_X6_kind : xMV RX6 yX6_kind cX6_kind 2 (some .int) 1 := ⟨⟨tw_882, tw_7, by decide +kernel⟩, tw_880, tw_881⟩
theorem xm_X6_isOf : xMS RX6 yX6_isOf cX6_isOf 2 (some .boolean) 2 := ⟨⟨tw_890, tw_7, by decide +kernel⟩, tw_889⟩
theorem xm_X6_as : xMV RX6 yX6_as cX6_as 3 (some .int) 2 := ⟨⟨tw_886, tw_7, by decide +kernel⟩, tw_884, tw_885⟩
theorem xm_X6_leave : xMV RX6 yX6_leave cX6_leave 7 none 1 := ⟨⟨tw_905, tw_7, by decide +kernel⟩, tw_904, (TT_sel 37 (by decide +kernel) rfl)⟩
theorem xm_X6_mark : xMV RX6 yX6_mark cX6_mark 4 (some .int) 1 := ⟨⟨tw_898, tw_7, by decide +kernel⟩, tw_897, (TT_sel 36 (by decide +kernel) rfl)⟩
theorem xm_X6_sizeOf : xMV RX6 yX6_sizeOf cX6_sizeOf 4 (some .int) 1 := ⟨⟨tw_912, tw_7, by decide +kernel⟩, tw_911, (TT_sel 38 (by decide +kernel) rfl)⟩
theorem xm_X6_ask : xMV RX6 yX6_ask cX6_ask 5 (some .int) 2 := ⟨⟨tw_894, tw_7, by decide +kernel⟩, tw_892, tw_893⟩
theorem xm_X6_trace : xMV RX6 yX6_trace cX6_trace 2 (some .int) 1 := ⟨⟨tw_919, tw_7, by decide +kernel⟩, tw_917, tw_918⟩
theorem xm_X6_count : xMV RX6 yX6_count cX6_count 5 (some .int) 1 := ⟨⟨tw_923, tw_7, by decide +kernel⟩, tw_921, tw_922⟩
theorem xm_X6_status : xMV RX6 yX6_status cX6_status 1 (some .int) 0 := ⟨⟨tw_927, tw_7, by decide +kernel⟩, tw_925, tw_926⟩
theorem xm_J6_bitCount_0f7a4 : xMS RJ6 yJ6_bitCount_0f7a4 cJ6_bitCount_0f7a4 1 (some .int) 1 := ⟨⟨tw_571, tw_10, by decide +kernel⟩, tw_570⟩
theorem xm_J9_abs_0f7a4 : xMS RJ9 yJ9_abs_0f7a4 cJ9_abs_0f7a4 1 (some .int) 1 := ⟨⟨tw_415, tw_9, by decide +kernel⟩, tw_414⟩
theorem xk_L_9 : Cond.methodLink RL 9 yX5_init ∈ TT := tw_13
theorem xk_L_13 : Cond.methodLink RL 13 yX5_row ∈ TT := tw_206
theorem xk_X5_55 : Cond.methodLink RX5 55 yX5_isRow ∈ TT := tw_210
theorem xk_X5_59 : Cond.methodLink RX5 59 yX5_isBelow ∈ TT := tw_213
theorem xk_X5_64 : Cond.methodLink RX5 64 yX5_finds ∈ TT := tw_217
theorem xk_X5_72 : Cond.methodLink RX5 72 yX3_begin ∈ TT := tw_222
theorem xk_L_18 : Cond.methodLink RL 18 yX5_set ∈ TT := tw_226
theorem xk_X5_85 : Cond.methodLink RX5 85 yX3_narrowed ∈ TT := tw_230
theorem xk_L_22 : Cond.methodLink RL 22 yX5_copy ∈ TT := tw_234
theorem xk_X5_88 : Cond.methodLink RX5 88 yX3_hasSpan ∈ TT := tw_238
theorem xk_L_27 : Cond.methodLink RL 27 yX5_drop ∈ TT := tw_245
theorem xk_L_32 : Cond.methodLink RL 32 yX5_feed ∈ TT := tw_249
theorem xk_L_36 : Cond.methodLink RL 36 yX5_forest ∈ TT := tw_254
theorem xk_X5_104 : Cond.methodLink RX5 104 yX4_readInto ∈ TT := tw_258
theorem xk_X4_19 : Cond.methodLink RX4 19 yX1_begin ∈ TT := tw_262
theorem xk_X4_24 : Cond.methodLink RX4 24 yX4_readLaw ∈ TT := tw_266
theorem xk_X4_34 : Cond.methodLink RX4 34 yX4_readSign ∈ TT := tw_270
theorem xk_X4_51 : Cond.methodLink RX4 51 yX4_byteAt ∈ TT := tw_274
theorem xk_X4_58 : Cond.methodLink RX4 58 yX4_refuse ∈ TT := tw_279
theorem xk_X4_38 : Cond.methodLink RX4 38 yX4_readNumber ∈ TT := tw_283
theorem xk_X4_83 : Cond.methodLink RX4 83 yX4_isFigure ∈ TT := tw_287
theorem xk_X4_31 : Cond.methodLink RX4 31 yX4_readHammock ∈ TT := tw_290
theorem xk_X4_55 : Cond.methodLink RX4 55 yX4_sortOf ∈ TT := tw_294
theorem xk_X4_64 : Cond.methodLink RX4 64 yX4_readTrees ∈ TT := tw_297
theorem xk_X4_68 : Cond.methodLink RX4 68 yX4_readLoad ∈ TT := tw_301
theorem xk_X5_112 : Cond.methodLink RX5 112 yX1_takeFrom ∈ TT := tw_306
theorem xk_X5_116 : Cond.methodLink RX5 116 yX0_forget ∈ TT := tw_311
theorem xk_L_41 : Cond.methodLink RL 41 yX5_fault ∈ TT := tw_315
theorem xk_L_45 : Cond.methodLink RL 45 yX5_minutes ∈ TT := tw_319
theorem xk_X5_131 : Cond.methodLink RX5 131 yX0_keep ∈ TT := tw_324
theorem xk_X5_135 : Cond.methodLink RX5 135 yX1_downBits ∈ TT := tw_328
theorem xk_X1_61 : Cond.methodLink RX1 61 yX1_isDown ∈ TT := tw_332
theorem xk_X1_53 : Cond.methodLink RX1 53 yX1_isCut ∈ TT := tw_336
theorem xk_X1_57 : Cond.methodLink RX1 57 yX1_dip ∈ TT := tw_340
theorem xk_L_49 : Cond.methodLink RL 49 yX5_sling ∈ TT := tw_344
theorem xk_X5_138 : Cond.methodLink RX5 138 yX5_isHammock ∈ TT := tw_348
theorem xk_X5_147 : Cond.methodLink RX5 147 yX1_place ∈ TT := tw_352
theorem xk_X1_65 : Cond.methodLink RX1 65 yX1_offset ∈ TT := tw_356
theorem xk_X1_68 : Cond.methodLink RX1 68 yX1_swung ∈ TT := tw_360
theorem xk_L_53 : Cond.methodLink RL 53 yX5_load ∈ TT := tw_363
theorem xk_X5_154 : Cond.methodLink RX5 154 yX1_dip ∈ TT := tw_367
theorem xk_L_58 : Cond.methodLink RL 58 yX5_cord ∈ TT := tw_368
theorem xk_X5_157 : Cond.methodLink RX5 157 yX1_isCut ∈ TT := tw_372
theorem xk_L_62 : Cond.methodLink RL 62 yX5_undo ∈ TT := tw_373
theorem xk_X5_166 : Cond.methodLink RX5 166 yX0_takeBack ∈ TT := tw_377
theorem xk_L_66 : Cond.methodLink RL 66 yX5_hammock ∈ TT := tw_381
theorem xk_L_70 : Cond.methodLink RL 70 yX5_ahead ∈ TT := tw_385
theorem xk_X5_172 : Cond.methodLink RX5 172 yX5_isAhead ∈ TT := tw_389
theorem xk_L_74 : Cond.methodLink RL 74 yX5_down ∈ TT := tw_392
theorem xk_L_78 : Cond.methodLink RL 78 yX5_reach ∈ TT := tw_396
theorem xk_X5_175 : Cond.methodLink RX5 175 yX1_nearBits ∈ TT := tw_400
theorem xk_X1_80 : Cond.methodLink RX1 80 yX1_spot ∈ TT := tw_404
theorem xk_X1_71 : Cond.methodLink RX1 71 yX1_place ∈ TT := tw_408
theorem xk_X1_83 : Cond.methodLink RX1 83 yX1_areNear ∈ TT := tw_409
theorem xk_X1_74 : Cond.methodLink RX1 74 yJ9_abs_0f7a4 ∈ TT := tw_413
theorem xk_L_82 : Cond.methodLink RL 82 yX5_meet ∈ TT := tw_416
theorem xk_X5_178 : Cond.methodLink RX5 178 yX5_areTwo ∈ TT := tw_420
theorem xk_X5_181 : Cond.methodLink RX5 181 yX1_spot ∈ TT := tw_424
theorem xk_X5_184 : Cond.methodLink RX5 184 yX1_areNear ∈ TT := tw_425
theorem xk_L_86 : Cond.methodLink RL 86 yX5_soonest ∈ TT := tw_427
theorem xk_X5_188 : Cond.methodLink RX5 188 yX2_foresee ∈ TT := tw_431
theorem xk_X2_31 : Cond.methodLink RX2 31 yX1_spot ∈ TT := tw_435
theorem xk_X2_35 : Cond.methodLink RX2 35 yX2_link ∈ TT := tw_436
theorem xk_X2_39 : Cond.methodLink RX2 39 yX1_areNear ∈ TT := tw_440
theorem xk_X5_192 : Cond.methodLink RX5 192 yX2_arrival ∈ TT := tw_441
theorem xk_X2_43 : Cond.methodLink RX2 43 yX2_spread ∈ TT := tw_445
theorem xk_L_90 : Cond.methodLink RL 90 yX5_hands ∈ TT := tw_450
theorem xk_X5_196 : Cond.methodLink RX5 196 yX2_fewestHands ∈ TT := tw_454
theorem xk_L_94 : Cond.methodLink RL 94 yX5_everywhere ∈ TT := tw_458
theorem xk_X5_199 : Cond.methodLink RX5 199 yX2_holders ∈ TT := tw_462
theorem xk_L_98 : Cond.methodLink RL 98 yX5_stops ∈ TT := tw_466
theorem xk_L_102 : Cond.methodLink RL 102 yX5_toSling ∈ TT := tw_470
theorem xk_X5_202 : Cond.methodLink RX5 202 yX2_foreseeAnew ∈ TT := tw_474
theorem xk_L_107 : Cond.methodLink RL 107 yX5_fits ∈ TT := tw_478
theorem xk_X5_206 : Cond.methodLink RX5 206 yX5_fittingKinds ∈ TT := tw_482
theorem xk_X5_254 : Cond.methodLink RX5 254 yX5_wasThere ∈ TT := tw_486
theorem xk_X5_210 : Cond.methodLink RX5 210 yX5_fittingSwings ∈ TT := tw_490
theorem xk_X5_213 : Cond.methodLink RX5 213 yX5_fittingWeights ∈ TT := tw_494
theorem xk_X5_258 : Cond.methodLink RX5 258 yX5_wasReached ∈ TT := tw_498
theorem xk_L_111 : Cond.methodLink RL 111 yX5_breaks ∈ TT := tw_502
theorem xk_X5_216 : Cond.methodLink RX5 216 yX5_partsOf ∈ TT := tw_506
theorem xk_X5_219 : Cond.methodLink RX5 219 yX5_partsOfAll ∈ TT := tw_510
theorem xk_X5_223 : Cond.methodLink RX5 223 yX5_commonDivisor ∈ TT := tw_514
theorem xk_L_115 : Cond.methodLink RL 115 yX5_image ∈ TT := tw_517
theorem xk_L_119 : Cond.methodLink RL 119 yX5_restore ∈ TT := tw_521
theorem xk_L_123 : Cond.methodLink RL 123 yX5_kind ∈ TT := tw_525
theorem xk_L_127 : Cond.methodLink RL 127 yX5_as ∈ TT := tw_529
theorem xk_X5_229 : Cond.methodLink RX5 229 yX5_isOfKind ∈ TT := tw_533
theorem xk_L_131 : Cond.methodLink RL 131 yX5_ask ∈ TT := tw_538
theorem xk_X5_235 : Cond.methodLink RX5 235 yX5_answer ∈ TT := tw_542
theorem xk_X5_270 : Cond.methodLink RX5 270 yX5_nearestBody ∈ TT := tw_546
theorem xk_X5_273 : Cond.methodLink RX5 273 yX5_body ∈ TT := tw_553
theorem xk_L_135 : Cond.methodLink RL 135 yX5_trace ∈ TT := tw_557
theorem xk_L_139 : Cond.methodLink RL 139 yX5_count ∈ TT := tw_561
theorem xk_X5_239 : Cond.methodLink RX5 239 yX5_countRows ∈ TT := tw_565
theorem xk_X5_248 : Cond.methodLink RX5 248 yJ6_bitCount_0f7a4 ∈ TT := tw_569
theorem xk_L_143 : Cond.methodLink RL 143 yX5_status ∈ TT := tw_575
theorem xk_L_12 : Cond.methodLink RL 12 yX6_init ∈ TT := tw_581
theorem xk_L_17 : Cond.methodLink RL 17 yX6_row ∈ TT := tw_656
theorem xk_X6_61 : Cond.methodLink RX6 61 yX6_isRow ∈ TT := tw_660
theorem xk_X6_57 : Cond.methodLink RX6 57 yX6_in ∈ TT := tw_664
theorem xk_X6_68 : Cond.methodLink RX6 68 yX6_found ∈ TT := tw_669
theorem xk_X6_72 : Cond.methodLink RX6 72 yX6_well ∈ TT := tw_674
theorem xk_L_21 : Cond.methodLink RL 21 yX6_set ∈ TT := tw_678
theorem xk_L_26 : Cond.methodLink RL 26 yX6_copy ∈ TT := tw_682
theorem xk_L_31 : Cond.methodLink RL 31 yX6_drop ∈ TT := tw_686
theorem xk_L_35 : Cond.methodLink RL 35 yX6_feed ∈ TT := tw_690
theorem xk_L_40 : Cond.methodLink RL 40 yX6_forest ∈ TT := tw_696
theorem xk_X6_125 : Cond.methodLink RX6 125 yX6_reads ∈ TT := tw_700
theorem xk_X6_108 : Cond.methodLink RX6 108 yX6_step ∈ TT := tw_704
theorem xk_X6_87 : Cond.methodLink RX6 87 yX6_here ∈ TT := tw_708
theorem xk_X6_111 : Cond.methodLink RX6 111 yX6_fails ∈ TT := tw_716
theorem xk_X6_117 : Cond.methodLink RX6 117 yX6_number ∈ TT := tw_720
theorem xk_X6_121 : Cond.methodLink RX6 121 yX6_readsHammock ∈ TT := tw_724
theorem xk_X6_114 : Cond.methodLink RX6 114 yX6_sortOf ∈ TT := tw_728
theorem xk_X6_132 : Cond.methodLink RX6 132 yX6_copies ∈ TT := tw_732
theorem xk_L_44 : Cond.methodLink RL 44 yX6_fault ∈ TT := tw_735
theorem xk_L_48 : Cond.methodLink RL 48 yX6_minutes ∈ TT := tw_739
theorem xk_X6_168 : Cond.methodLink RX6 168 yX6_isForest ∈ TT := tw_743
theorem xk_X6_174 : Cond.methodLink RX6 174 yX6_remember ∈ TT := tw_749
theorem xk_X6_177 : Cond.methodLink RX6 177 yX6_downOf ∈ TT := tw_753
theorem xk_X6_151 : Cond.methodLink RX6 151 yX6_isDown ∈ TT := tw_756
theorem xk_X6_143 : Cond.methodLink RX6 143 yX6_has ∈ TT := tw_759
theorem xk_X6_147 : Cond.methodLink RX6 147 yX6_dip ∈ TT := tw_762
theorem xk_L_52 : Cond.methodLink RL 52 yX6_sling ∈ TT := tw_765
theorem xk_X6_181 : Cond.methodLink RX6 181 yX6_isHammock ∈ TT := tw_769
theorem xk_X6_155 : Cond.methodLink RX6 155 yX6_where ∈ TT := tw_774
theorem xk_X6_139 : Cond.methodLink RX6 139 yX6_swung ∈ TT := tw_777
theorem xk_L_57 : Cond.methodLink RL 57 yX6_load ∈ TT := tw_780
theorem xk_L_61 : Cond.methodLink RL 61 yX6_cord ∈ TT := tw_785
theorem xk_X6_188 : Cond.methodLink RX6 188 yX6_isTwo ∈ TT := tw_789
theorem xk_L_65 : Cond.methodLink RL 65 yX6_undo ∈ TT := tw_792
theorem xk_L_69 : Cond.methodLink RL 69 yX6_hammock ∈ TT := tw_796
theorem xk_L_73 : Cond.methodLink RL 73 yX6_ahead ∈ TT := tw_800
theorem xk_X6_191 : Cond.methodLink RX6 191 yX6_isSpan ∈ TT := tw_804
theorem xk_L_77 : Cond.methodLink RL 77 yX6_down ∈ TT := tw_808
theorem xk_L_81 : Cond.methodLink RL 81 yX6_reach ∈ TT := tw_812
theorem xk_X6_162 : Cond.methodLink RX6 162 yX6_reachOf ∈ TT := tw_816
theorem xk_X6_158 : Cond.methodLink RX6 158 yX6_areNear ∈ TT := tw_819
theorem xk_L_85 : Cond.methodLink RL 85 yX6_meet ∈ TT := tw_822
theorem xk_L_89 : Cond.methodLink RL 89 yX6_soonest ∈ TT := tw_827
theorem xk_X6_195 : Cond.methodLink RX6 195 yX6_soonestOf ∈ TT := tw_831
theorem xk_X6_198 : Cond.methodLink RX6 198 yX6_told ∈ TT := tw_835
theorem xk_L_93 : Cond.methodLink RL 93 yX6_hands ∈ TT := tw_838
theorem xk_L_97 : Cond.methodLink RL 97 yX6_everywhere ∈ TT := tw_842
theorem xk_X6_201 : Cond.methodLink RX6 201 yX6_spread ∈ TT := tw_846
theorem xk_L_101 : Cond.methodLink RL 101 yX6_stops ∈ TT := tw_849
theorem xk_X6_204 : Cond.methodLink RX6 204 yX6_layAside ∈ TT := tw_853
theorem xk_L_106 : Cond.methodLink RL 106 yX6_toSling ∈ TT := tw_857
theorem xk_L_110 : Cond.methodLink RL 110 yX6_fits ∈ TT := tw_861
theorem xk_L_114 : Cond.methodLink RL 114 yX6_breaks ∈ TT := tw_866
theorem xk_L_118 : Cond.methodLink RL 118 yX6_image ∈ TT := tw_871
theorem xk_L_122 : Cond.methodLink RL 122 yX6_restore ∈ TT := tw_875
theorem xk_L_126 : Cond.methodLink RL 126 yX6_kind ∈ TT := tw_879
theorem xk_L_130 : Cond.methodLink RL 130 yX6_as ∈ TT := tw_883
theorem xk_X6_213 : Cond.methodLink RX6 213 yX6_isOf ∈ TT := tw_888
theorem xk_L_134 : Cond.methodLink RL 134 yX6_ask ∈ TT := tw_891
theorem xk_X6_235 : Cond.methodLink RX6 235 yX6_mark ∈ TT := tw_895
theorem xk_X6_227 : Cond.methodLink RX6 227 yX6_leave ∈ TT := tw_902
theorem xk_X6_242 : Cond.methodLink RX6 242 yX6_sizeOf ∈ TT := tw_909
theorem xk_L_138 : Cond.methodLink RL 138 yX6_trace ∈ TT := tw_916
theorem xk_L_142 : Cond.methodLink RL 142 yX6_count ∈ TT := tw_920
theorem xk_L_146 : Cond.methodLink RL 146 yX6_status ∈ TT := tw_924
end
