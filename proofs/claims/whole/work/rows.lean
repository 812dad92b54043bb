section
-- ===== PART A: goes FIRST, ahead of the names: the tables' words, and 'selects' of the private methods out of them =====
/-- a private method of a class that the tables say can be made, by its rows of tables_1 -/
def lw_okq (q : MethodName × Nat) : Prop := (q.1.cls ≠ "java/lang/invoke/MethodHandle" ∧ q.1.cls ≠ "java/lang/invoke/VarHandle") ∧ Cond.instantiable q.1.cls q.2 ∈ tables_1 ∧ Cond.privateMethod q.1 ∈ tables_1 ∧ Cond.instanceMethod q.1 ∈ tables_1
theorem lw_p0 : lw_okq (⟨"HammockReach", "finds", "(I)I"⟩, 10) := ⟨⟨by decide +kernel, by decide +kernel⟩, List.mem_of_getElem? (i := 12) (by decide +kernel), List.mem_of_getElem? (i := 218) (by decide +kernel), List.mem_of_getElem? (i := 219) (by decide +kernel)⟩
theorem lw_p1 : lw_okq (⟨"HammockReach$Tape", "readLaw", "(LHammockReach$Forest;)Z"⟩, 4) := ⟨⟨by decide +kernel, by decide +kernel⟩, List.mem_of_getElem? (i := 22) (by decide +kernel), List.mem_of_getElem? (i := 267) (by decide +kernel), List.mem_of_getElem? (i := 268) (by decide +kernel)⟩
theorem lw_p2 : lw_okq (⟨"HammockReach$Tape", "readSign", "(I)Z"⟩, 4) := ⟨⟨by decide +kernel, by decide +kernel⟩, List.mem_of_getElem? (i := 22) (by decide +kernel), List.mem_of_getElem? (i := 271) (by decide +kernel), List.mem_of_getElem? (i := 272) (by decide +kernel)⟩
theorem lw_p3 : lw_okq (⟨"HammockReach$Tape", "byteAt", "(I)I"⟩, 4) := ⟨⟨by decide +kernel, by decide +kernel⟩, List.mem_of_getElem? (i := 22) (by decide +kernel), List.mem_of_getElem? (i := 275) (by decide +kernel), List.mem_of_getElem? (i := 276) (by decide +kernel)⟩
theorem lw_p4 : lw_okq (⟨"HammockReach$Tape", "refuse", "(I)Z"⟩, 4) := ⟨⟨by decide +kernel, by decide +kernel⟩, List.mem_of_getElem? (i := 22) (by decide +kernel), List.mem_of_getElem? (i := 280) (by decide +kernel), List.mem_of_getElem? (i := 281) (by decide +kernel)⟩
theorem lw_p5 : lw_okq (⟨"HammockReach$Tape", "readNumber", "(II)I"⟩, 4) := ⟨⟨by decide +kernel, by decide +kernel⟩, List.mem_of_getElem? (i := 22) (by decide +kernel), List.mem_of_getElem? (i := 284) (by decide +kernel), List.mem_of_getElem? (i := 285) (by decide +kernel)⟩
theorem lw_p6 : lw_okq (⟨"HammockReach$Tape", "readHammock", "(LHammockReach$Forest;)Z"⟩, 4) := ⟨⟨by decide +kernel, by decide +kernel⟩, List.mem_of_getElem? (i := 22) (by decide +kernel), List.mem_of_getElem? (i := 291) (by decide +kernel), List.mem_of_getElem? (i := 292) (by decide +kernel)⟩
theorem lw_p7 : lw_okq (⟨"HammockReach$Tape", "readTrees", "(LHammockReach$Forest;I)Z"⟩, 4) := ⟨⟨by decide +kernel, by decide +kernel⟩, List.mem_of_getElem? (i := 22) (by decide +kernel), List.mem_of_getElem? (i := 298) (by decide +kernel), List.mem_of_getElem? (i := 299) (by decide +kernel)⟩
theorem lw_p8 : lw_okq (⟨"HammockReach$Tape", "readLoad", "(LHammockReach$Forest;I)Z"⟩, 4) := ⟨⟨by decide +kernel, by decide +kernel⟩, List.mem_of_getElem? (i := 22) (by decide +kernel), List.mem_of_getElem? (i := 302) (by decide +kernel), List.mem_of_getElem? (i := 303) (by decide +kernel)⟩
theorem lw_p9 : lw_okq (⟨"HammockReach", "isHammock", "(I)Z"⟩, 10) := ⟨⟨by decide +kernel, by decide +kernel⟩, List.mem_of_getElem? (i := 12) (by decide +kernel), List.mem_of_getElem? (i := 349) (by decide +kernel), List.mem_of_getElem? (i := 350) (by decide +kernel)⟩
theorem lw_p10 : lw_okq (⟨"HammockReach$Forest", "offset", "(II)I"⟩, 11) := ⟨⟨by decide +kernel, by decide +kernel⟩, List.mem_of_getElem? (i := 46) (by decide +kernel), List.mem_of_getElem? (i := 357) (by decide +kernel), List.mem_of_getElem? (i := 358) (by decide +kernel)⟩
theorem lw_p11 : lw_okq (⟨"HammockReach", "areTwo", "(II)Z"⟩, 10) := ⟨⟨by decide +kernel, by decide +kernel⟩, List.mem_of_getElem? (i := 12) (by decide +kernel), List.mem_of_getElem? (i := 421) (by decide +kernel), List.mem_of_getElem? (i := 422) (by decide +kernel)⟩
theorem lw_p12 : lw_okq (⟨"HammockReach$Outlook", "link", "(LHammockReach$Forest;II)V"⟩, 4) := ⟨⟨by decide +kernel, by decide +kernel⟩, List.mem_of_getElem? (i := 139) (by decide +kernel), List.mem_of_getElem? (i := 437) (by decide +kernel), List.mem_of_getElem? (i := 438) (by decide +kernel)⟩
theorem lw_p13 : lw_okq (⟨"HammockReach$Outlook", "spread", "(III)I"⟩, 4) := ⟨⟨by decide +kernel, by decide +kernel⟩, List.mem_of_getElem? (i := 139) (by decide +kernel), List.mem_of_getElem? (i := 446) (by decide +kernel), List.mem_of_getElem? (i := 447) (by decide +kernel)⟩
theorem lw_p14 : lw_okq (⟨"HammockReach", "fittingKinds", "(ILHammockReach$Row;II)I"⟩, 10) := ⟨⟨by decide +kernel, by decide +kernel⟩, List.mem_of_getElem? (i := 12) (by decide +kernel), List.mem_of_getElem? (i := 483) (by decide +kernel), List.mem_of_getElem? (i := 484) (by decide +kernel)⟩
theorem lw_p15 : lw_okq (⟨"HammockReach", "wasThere", "(ILHammockReach$Row;II)Z"⟩, 10) := ⟨⟨by decide +kernel, by decide +kernel⟩, List.mem_of_getElem? (i := 12) (by decide +kernel), List.mem_of_getElem? (i := 487) (by decide +kernel), List.mem_of_getElem? (i := 488) (by decide +kernel)⟩
def lw_privs_1 : List (MethodName × Nat) := [(⟨"HammockReach", "finds", "(I)I"⟩, 10), (⟨"HammockReach$Tape", "readLaw", "(LHammockReach$Forest;)Z"⟩, 4), (⟨"HammockReach$Tape", "readSign", "(I)Z"⟩, 4), (⟨"HammockReach$Tape", "byteAt", "(I)I"⟩, 4), (⟨"HammockReach$Tape", "refuse", "(I)Z"⟩, 4), (⟨"HammockReach$Tape", "readNumber", "(II)I"⟩, 4), (⟨"HammockReach$Tape", "readHammock", "(LHammockReach$Forest;)Z"⟩, 4), (⟨"HammockReach$Tape", "readTrees", "(LHammockReach$Forest;I)Z"⟩, 4), (⟨"HammockReach$Tape", "readLoad", "(LHammockReach$Forest;I)Z"⟩, 4), (⟨"HammockReach", "isHammock", "(I)Z"⟩, 10), (⟨"HammockReach$Forest", "offset", "(II)I"⟩, 11), (⟨"HammockReach", "areTwo", "(II)Z"⟩, 10), (⟨"HammockReach$Outlook", "link", "(LHammockReach$Forest;II)V"⟩, 4), (⟨"HammockReach$Outlook", "spread", "(III)I"⟩, 4), (⟨"HammockReach", "fittingKinds", "(ILHammockReach$Row;II)I"⟩, 10), (⟨"HammockReach", "wasThere", "(ILHammockReach$Row;II)Z"⟩, 10)]
theorem lw_r1 : ∀ q ∈ lw_privs_1, lw_okq q := List.forall_mem_cons.mpr ⟨lw_p0, List.forall_mem_cons.mpr ⟨lw_p1, List.forall_mem_cons.mpr ⟨lw_p2, List.forall_mem_cons.mpr ⟨lw_p3, List.forall_mem_cons.mpr ⟨lw_p4, List.forall_mem_cons.mpr ⟨lw_p5, List.forall_mem_cons.mpr ⟨lw_p6, List.forall_mem_cons.mpr ⟨lw_p7, List.forall_mem_cons.mpr ⟨lw_p8, List.forall_mem_cons.mpr ⟨lw_p9, List.forall_mem_cons.mpr ⟨lw_p10, List.forall_mem_cons.mpr ⟨lw_p11, List.forall_mem_cons.mpr ⟨lw_p12, List.forall_mem_cons.mpr ⟨lw_p13, List.forall_mem_cons.mpr ⟨lw_p14, List.forall_mem_cons.mpr ⟨lw_p15, fun _ h => absurd h List.not_mem_nil⟩⟩⟩⟩⟩⟩⟩⟩⟩⟩⟩⟩⟩⟩⟩⟩
theorem lw_p16 : lw_okq (⟨"HammockReach", "fittingSwings", "(ILHammockReach$Row;II)I"⟩, 10) := ⟨⟨by decide +kernel, by decide +kernel⟩, List.mem_of_getElem? (i := 12) (by decide +kernel), List.mem_of_getElem? (i := 491) (by decide +kernel), List.mem_of_getElem? (i := 492) (by decide +kernel)⟩
theorem lw_p17 : lw_okq (⟨"HammockReach", "fittingWeights", "(ILHammockReach$Row;II)I"⟩, 10) := ⟨⟨by decide +kernel, by decide +kernel⟩, List.mem_of_getElem? (i := 12) (by decide +kernel), List.mem_of_getElem? (i := 495) (by decide +kernel), List.mem_of_getElem? (i := 496) (by decide +kernel)⟩
theorem lw_p18 : lw_okq (⟨"HammockReach", "wasReached", "(ILHammockReach$Row;II)Z"⟩, 10) := ⟨⟨by decide +kernel, by decide +kernel⟩, List.mem_of_getElem? (i := 12) (by decide +kernel), List.mem_of_getElem? (i := 499) (by decide +kernel), List.mem_of_getElem? (i := 500) (by decide +kernel)⟩
theorem lw_p19 : lw_okq (⟨"HammockReach", "partsOf", "(II)I"⟩, 10) := ⟨⟨by decide +kernel, by decide +kernel⟩, List.mem_of_getElem? (i := 12) (by decide +kernel), List.mem_of_getElem? (i := 507) (by decide +kernel), List.mem_of_getElem? (i := 508) (by decide +kernel)⟩
theorem lw_p20 : lw_okq (⟨"HammockReach", "partsOfAll", "()I"⟩, 10) := ⟨⟨by decide +kernel, by decide +kernel⟩, List.mem_of_getElem? (i := 12) (by decide +kernel), List.mem_of_getElem? (i := 511) (by decide +kernel), List.mem_of_getElem? (i := 512) (by decide +kernel)⟩
theorem lw_p21 : lw_okq (⟨"HammockReach", "answer", "(III)I"⟩, 10) := ⟨⟨by decide +kernel, by decide +kernel⟩, List.mem_of_getElem? (i := 12) (by decide +kernel), List.mem_of_getElem? (i := 543) (by decide +kernel), List.mem_of_getElem? (i := 544) (by decide +kernel)⟩
theorem lw_p22 : lw_okq (⟨"HammockReach", "body", "(III)I"⟩, 10) := ⟨⟨by decide +kernel, by decide +kernel⟩, List.mem_of_getElem? (i := 12) (by decide +kernel), List.mem_of_getElem? (i := 554) (by decide +kernel), List.mem_of_getElem? (i := 555) (by decide +kernel)⟩
theorem lw_p23 : lw_okq (⟨"HammockReach", "countRows", "()I"⟩, 10) := ⟨⟨by decide +kernel, by decide +kernel⟩, List.mem_of_getElem? (i := 12) (by decide +kernel), List.mem_of_getElem? (i := 566) (by decide +kernel), List.mem_of_getElem? (i := 567) (by decide +kernel)⟩
theorem lw_p24 : lw_okq (⟨"HammockReachModel", "found", "(I)I"⟩, 23) := ⟨⟨by decide +kernel, by decide +kernel⟩, List.mem_of_getElem? (i := 580) (by decide +kernel), List.mem_of_getElem? (i := 670) (by decide +kernel), List.mem_of_getElem? (i := 671) (by decide +kernel)⟩
theorem lw_p25 : lw_okq (⟨"HammockReachModel", "well", "(I)I"⟩, 23) := ⟨⟨by decide +kernel, by decide +kernel⟩, List.mem_of_getElem? (i := 580) (by decide +kernel), List.mem_of_getElem? (i := 675) (by decide +kernel), List.mem_of_getElem? (i := 676) (by decide +kernel)⟩
theorem lw_p26 : lw_okq (⟨"HammockReachModel", "reads", "()Z"⟩, 23) := ⟨⟨by decide +kernel, by decide +kernel⟩, List.mem_of_getElem? (i := 580) (by decide +kernel), List.mem_of_getElem? (i := 701) (by decide +kernel), List.mem_of_getElem? (i := 702) (by decide +kernel)⟩
theorem lw_p27 : lw_okq (⟨"HammockReachModel", "step", "()V"⟩, 23) := ⟨⟨by decide +kernel, by decide +kernel⟩, List.mem_of_getElem? (i := 580) (by decide +kernel), List.mem_of_getElem? (i := 705) (by decide +kernel), List.mem_of_getElem? (i := 706) (by decide +kernel)⟩
theorem lw_p28 : lw_okq (⟨"HammockReachModel", "here", "()I"⟩, 23) := ⟨⟨by decide +kernel, by decide +kernel⟩, List.mem_of_getElem? (i := 580) (by decide +kernel), List.mem_of_getElem? (i := 709) (by decide +kernel), List.mem_of_getElem? (i := 710) (by decide +kernel)⟩
theorem lw_p29 : lw_okq (⟨"HammockReachModel", "fails", "(I)Z"⟩, 23) := ⟨⟨by decide +kernel, by decide +kernel⟩, List.mem_of_getElem? (i := 580) (by decide +kernel), List.mem_of_getElem? (i := 717) (by decide +kernel), List.mem_of_getElem? (i := 718) (by decide +kernel)⟩
theorem lw_p30 : lw_okq (⟨"HammockReachModel", "number", "(IIII)Z"⟩, 23) := ⟨⟨by decide +kernel, by decide +kernel⟩, List.mem_of_getElem? (i := 580) (by decide +kernel), List.mem_of_getElem? (i := 721) (by decide +kernel), List.mem_of_getElem? (i := 722) (by decide +kernel)⟩
theorem lw_p31 : lw_okq (⟨"HammockReachModel", "readsHammock", "()Z"⟩, 23) := ⟨⟨by decide +kernel, by decide +kernel⟩, List.mem_of_getElem? (i := 580) (by decide +kernel), List.mem_of_getElem? (i := 725) (by decide +kernel), List.mem_of_getElem? (i := 726) (by decide +kernel)⟩
def lw_privs_2 : List (MethodName × Nat) := [(⟨"HammockReach", "fittingSwings", "(ILHammockReach$Row;II)I"⟩, 10), (⟨"HammockReach", "fittingWeights", "(ILHammockReach$Row;II)I"⟩, 10), (⟨"HammockReach", "wasReached", "(ILHammockReach$Row;II)Z"⟩, 10), (⟨"HammockReach", "partsOf", "(II)I"⟩, 10), (⟨"HammockReach", "partsOfAll", "()I"⟩, 10), (⟨"HammockReach", "answer", "(III)I"⟩, 10), (⟨"HammockReach", "body", "(III)I"⟩, 10), (⟨"HammockReach", "countRows", "()I"⟩, 10), (⟨"HammockReachModel", "found", "(I)I"⟩, 23), (⟨"HammockReachModel", "well", "(I)I"⟩, 23), (⟨"HammockReachModel", "reads", "()Z"⟩, 23), (⟨"HammockReachModel", "step", "()V"⟩, 23), (⟨"HammockReachModel", "here", "()I"⟩, 23), (⟨"HammockReachModel", "fails", "(I)Z"⟩, 23), (⟨"HammockReachModel", "number", "(IIII)Z"⟩, 23), (⟨"HammockReachModel", "readsHammock", "()Z"⟩, 23)]
theorem lw_r2 : ∀ q ∈ lw_privs_2, lw_okq q := List.forall_mem_cons.mpr ⟨lw_p16, List.forall_mem_cons.mpr ⟨lw_p17, List.forall_mem_cons.mpr ⟨lw_p18, List.forall_mem_cons.mpr ⟨lw_p19, List.forall_mem_cons.mpr ⟨lw_p20, List.forall_mem_cons.mpr ⟨lw_p21, List.forall_mem_cons.mpr ⟨lw_p22, List.forall_mem_cons.mpr ⟨lw_p23, List.forall_mem_cons.mpr ⟨lw_p24, List.forall_mem_cons.mpr ⟨lw_p25, List.forall_mem_cons.mpr ⟨lw_p26, List.forall_mem_cons.mpr ⟨lw_p27, List.forall_mem_cons.mpr ⟨lw_p28, List.forall_mem_cons.mpr ⟨lw_p29, List.forall_mem_cons.mpr ⟨lw_p30, List.forall_mem_cons.mpr ⟨lw_p31, fun _ h => absurd h List.not_mem_nil⟩⟩⟩⟩⟩⟩⟩⟩⟩⟩⟩⟩⟩⟩⟩⟩
theorem lw_p32 : lw_okq (⟨"HammockReachModel", "isForest", "()Z"⟩, 23) := ⟨⟨by decide +kernel, by decide +kernel⟩, List.mem_of_getElem? (i := 580) (by decide +kernel), List.mem_of_getElem? (i := 744) (by decide +kernel), List.mem_of_getElem? (i := 745) (by decide +kernel)⟩
theorem lw_p33 : lw_okq (⟨"HammockReachModel", "remember", "()V"⟩, 23) := ⟨⟨by decide +kernel, by decide +kernel⟩, List.mem_of_getElem? (i := 580) (by decide +kernel), List.mem_of_getElem? (i := 750) (by decide +kernel), List.mem_of_getElem? (i := 751) (by decide +kernel)⟩
theorem lw_p34 : lw_okq (⟨"HammockReachModel", "isHammock", "(I)Z"⟩, 23) := ⟨⟨by decide +kernel, by decide +kernel⟩, List.mem_of_getElem? (i := 580) (by decide +kernel), List.mem_of_getElem? (i := 770) (by decide +kernel), List.mem_of_getElem? (i := 771) (by decide +kernel)⟩
theorem lw_p35 : lw_okq (⟨"HammockReachModel", "layAside", "()V"⟩, 23) := ⟨⟨by decide +kernel, by decide +kernel⟩, List.mem_of_getElem? (i := 580) (by decide +kernel), List.mem_of_getElem? (i := 854) (by decide +kernel), List.mem_of_getElem? (i := 855) (by decide +kernel)⟩
theorem lw_p36 : lw_okq (⟨"HammockReachModel", "mark", "(I)I"⟩, 23) := ⟨⟨by decide +kernel, by decide +kernel⟩, List.mem_of_getElem? (i := 580) (by decide +kernel), List.mem_of_getElem? (i := 896) (by decide +kernel), List.mem_of_getElem? (i := 897) (by decide +kernel)⟩
theorem lw_p37 : lw_okq (⟨"HammockReachModel", "leave", "(J)V"⟩, 23) := ⟨⟨by decide +kernel, by decide +kernel⟩, List.mem_of_getElem? (i := 580) (by decide +kernel), List.mem_of_getElem? (i := 903) (by decide +kernel), List.mem_of_getElem? (i := 904) (by decide +kernel)⟩
theorem lw_p38 : lw_okq (⟨"HammockReachModel", "sizeOf", "(I)I"⟩, 23) := ⟨⟨by decide +kernel, by decide +kernel⟩, List.mem_of_getElem? (i := 580) (by decide +kernel), List.mem_of_getElem? (i := 910) (by decide +kernel), List.mem_of_getElem? (i := 911) (by decide +kernel)⟩
def lw_privs_3 : List (MethodName × Nat) := [(⟨"HammockReachModel", "isForest", "()Z"⟩, 23), (⟨"HammockReachModel", "remember", "()V"⟩, 23), (⟨"HammockReachModel", "isHammock", "(I)Z"⟩, 23), (⟨"HammockReachModel", "layAside", "()V"⟩, 23), (⟨"HammockReachModel", "mark", "(I)I"⟩, 23), (⟨"HammockReachModel", "leave", "(J)V"⟩, 23), (⟨"HammockReachModel", "sizeOf", "(I)I"⟩, 23)]
theorem lw_r3 : ∀ q ∈ lw_privs_3, lw_okq q := List.forall_mem_cons.mpr ⟨lw_p32, List.forall_mem_cons.mpr ⟨lw_p33, List.forall_mem_cons.mpr ⟨lw_p34, List.forall_mem_cons.mpr ⟨lw_p35, List.forall_mem_cons.mpr ⟨lw_p36, List.forall_mem_cons.mpr ⟨lw_p37, List.forall_mem_cons.mpr ⟨lw_p38, fun _ h => absurd h List.not_mem_nil⟩⟩⟩⟩⟩⟩⟩
def lw_privs : List (MethodName × Nat) := lw_privs_1 ++ (lw_privs_2 ++ (lw_privs_3))
def lw_tbl : List Cond := k2_sels lw_privs ++ tables_1
theorem lw_privs_ok : ∀ q ∈ lw_privs, lw_okq q := by
  show ∀ q ∈ lw_privs_1 ++ (lw_privs_2 ++ (lw_privs_3)), lw_okq q
  exact List.forall_mem_append.mpr ⟨lw_r1, List.forall_mem_append.mpr ⟨lw_r2, lw_r3⟩⟩
end
section
def RX0 : String := "HammockReach$Acts"
def TX0 : u_T := fun k => match k with
  | 0 => ("HammockReach$Acts", "what", "[I", true)
  | 1 => ("HammockReach$Acts", "whose", "[I", true)
  | 2 => ("HammockReach$Acts", "before", "[I", true)
  | 3 => ("HammockReach$Acts", "beforeToo", "[I", true)
  | 4 => ("HammockReach$Acts", "oldest", "I", false)
  | _ => ("HammockReach$Acts", "kept", "I", false)
def tyX0 : Nat → FieldType := fun k => match k with
  | 0 => .array .int
  | 1 => .array .int
  | 2 => .array .int
  | 3 => .array .int
  | 4 => .int
  | _ => .int
abbrev wsX00 : List Cond := u_ws RX0 TX0 6
theorem nmX0 : ∀ a, a < 6 → ∀ b, b < 6 → a ≠ b → (TX0 a).2.1 ≠ (TX0 b).2.1 := by decide +kernel
theorem tyX0_ok : ∀ k, k < 6 → parseFieldDescriptor (TX0 k).2.2.1 = some (tyX0 k) := by decide +kernel
abbrev cX0_init : ByteArray := prog_2_method_1_code
def yX0_init : MethodName := ⟨RX0, "<init>", "()V"⟩
abbrev cX0_forget : ByteArray := prog_2_method_2_code
def yX0_forget : MethodName := ⟨RX0, "forget", "()V"⟩
abbrev cX0_keep : ByteArray := prog_2_method_3_code
def yX0_keep : MethodName := ⟨RX0, "keep", "(IIII)V"⟩
abbrev cX0_takeBack : ByteArray := prog_2_method_4_code
def yX0_takeBack : MethodName := ⟨RX0, "takeBack", "(LHammockReach$Forest;)V"⟩
def RX1 : String := "HammockReach$Forest"
def TX1 : u_T := fun k => match k with
  | 0 => ("HammockReach$Forest", "sort", "[I", true)
  | 1 => ("HammockReach$Forest", "low", "[I", true)
  | 2 => ("HammockReach$Forest", "top", "[I", true)
  | 3 => ("HammockReach$Forest", "weight", "[I", true)
  | 4 => ("HammockReach$Forest", "swing", "[I", true)
  | 5 => ("HammockReach$Forest", "stands", "Z", false)
  | 6 => ("HammockReach$Forest", "high", "I", false)
  | 7 => ("HammockReach$Forest", "arm", "I", false)
  | 8 => ("HammockReach$Forest", "minute", "I", false)
  | 9 => ("HammockReach$Forest", "size", "I", false)
  | _ => ("HammockReach$Forest", "cut", "I", false)
def tyX1 : Nat → FieldType := fun k => match k with
  | 0 => .array .int
  | 1 => .array .int
  | 2 => .array .int
  | 3 => .array .int
  | 4 => .array .int
  | 5 => .boolean
  | 6 => .int
  | 7 => .int
  | 8 => .int
  | 9 => .int
  | _ => .int
abbrev wsX10 : List Cond := u_ws RX1 TX1 11
theorem nmX1 : ∀ a, a < 11 → ∀ b, b < 11 → a ≠ b → (TX1 a).2.1 ≠ (TX1 b).2.1 := by decide +kernel
theorem tyX1_ok : ∀ k, k < 11 → parseFieldDescriptor (TX1 k).2.2.1 = some (tyX1 k) := by decide +kernel
abbrev cX1_init : ByteArray := prog_3_method_1_code
def yX1_init : MethodName := ⟨RX1, "<init>", "()V"⟩
abbrev cX1_begin : ByteArray := prog_3_method_2_code
def yX1_begin : MethodName := ⟨RX1, "begin", "()V"⟩
abbrev cX1_takeFrom : ByteArray := prog_3_method_3_code
def yX1_takeFrom : MethodName := ⟨RX1, "takeFrom", "(LHammockReach$Forest;)V"⟩
abbrev cX1_isCut : ByteArray := prog_3_method_4_code
def yX1_isCut : MethodName := ⟨RX1, "isCut", "(I)Z"⟩
abbrev cX1_dip : ByteArray := prog_3_method_5_code
def yX1_dip : MethodName := ⟨RX1, "dip", "(II)I"⟩
abbrev cX1_isDown : ByteArray := prog_3_method_6_code
def yX1_isDown : MethodName := ⟨RX1, "isDown", "(II)Z"⟩
abbrev cX1_downBits : ByteArray := prog_3_method_7_code
def yX1_downBits : MethodName := ⟨RX1, "downBits", "(I)I"⟩
abbrev cX1_place : ByteArray := prog_3_method_8_code
def yX1_place : MethodName := ⟨RX1, "place", "(II)I"⟩
abbrev cX1_offset : ByteArray := prog_3_method_9_code
def yX1_offset : MethodName := ⟨RX1, "offset", "(II)I"⟩
abbrev cX1_swung : ByteArray := prog_3_method_10_code
def yX1_swung : MethodName := ⟨RX1, "swung", "(II)I"⟩
abbrev cX1_spot : ByteArray := prog_3_method_11_code
def yX1_spot : MethodName := ⟨RX1, "spot", "(II)I"⟩
abbrev cX1_areNear : ByteArray := prog_3_method_12_code
def yX1_areNear : MethodName := ⟨RX1, "areNear", "(II)Z"⟩
abbrev cX1_nearBits : ByteArray := prog_3_method_13_code
def yX1_nearBits : MethodName := ⟨RX1, "nearBits", "(II)I"⟩
def RX2 : String := "HammockReach$Outlook"
def TX2 : u_T := fun k => match k with
  | 0 => ("HammockReach$Outlook", "spots", "[I", true)
  | 1 => ("HammockReach$Outlook", "near", "[I", true)
  | 2 => ("HammockReach$Outlook", "within", "[I", true)
  | _ => ("HammockReach$Outlook", "size", "I", false)
def tyX2 : Nat → FieldType := fun k => match k with
  | 0 => .array .int
  | 1 => .array .int
  | 2 => .array .int
  | _ => .int
abbrev wsX20 : List Cond := u_ws RX2 TX2 4
theorem nmX2 : ∀ a, a < 4 → ∀ b, b < 4 → a ≠ b → (TX2 a).2.1 ≠ (TX2 b).2.1 := by decide +kernel
theorem tyX2_ok : ∀ k, k < 4 → parseFieldDescriptor (TX2 k).2.2.1 = some (tyX2 k) := by decide +kernel
abbrev cX2_init : ByteArray := prog_4_method_1_code
def yX2_init : MethodName := ⟨RX2, "<init>", "()V"⟩
abbrev cX2_foresee : ByteArray := prog_4_method_2_code
def yX2_foresee : MethodName := ⟨RX2, "foresee", "(LHammockReach$Forest;I)V"⟩
abbrev cX2_foreseeAnew : ByteArray := prog_4_method_3_code
def yX2_foreseeAnew : MethodName := ⟨RX2, "foreseeAnew", "(LHammockReach$Forest;II)V"⟩
abbrev cX2_link : ByteArray := prog_4_method_4_code
def yX2_link : MethodName := ⟨RX2, "link", "(LHammockReach$Forest;II)V"⟩
abbrev cX2_spread : ByteArray := prog_4_method_5_code
def yX2_spread : MethodName := ⟨RX2, "spread", "(III)I"⟩
abbrev cX2_holders : ByteArray := prog_4_method_6_code
def yX2_holders : MethodName := ⟨RX2, "holders", "(II)I"⟩
abbrev cX2_arrival : ByteArray := prog_4_method_7_code
def yX2_arrival : MethodName := ⟨RX2, "arrival", "(IIII)I"⟩
abbrev cX2_fewestHands : ByteArray := prog_4_method_8_code
def yX2_fewestHands : MethodName := ⟨RX2, "fewestHands", "(II)I"⟩
def RX3 : String := "HammockReach$Row"
def TX3 : u_T := fun k => match k with
  | 0 => ("HammockReach$Row", "items", "[I", true)
  | 1 => ("HammockReach$Row", "lane", "I", false)
  | _ => ("HammockReach$Row", "size", "I", false)
def tyX3 : Nat → FieldType := fun k => match k with
  | 0 => .array .int
  | 1 => .int
  | _ => .int
abbrev wsX30 : List Cond := u_ws RX3 TX3 3
theorem nmX3 : ∀ a, a < 3 → ∀ b, b < 3 → a ≠ b → (TX3 a).2.1 ≠ (TX3 b).2.1 := by decide +kernel
theorem tyX3_ok : ∀ k, k < 3 → parseFieldDescriptor (TX3 k).2.2.1 = some (tyX3 k) := by decide +kernel
abbrev cX3_init : ByteArray := prog_5_method_1_code
def yX3_init : MethodName := ⟨RX3, "<init>", "()V"⟩
abbrev cX3_begin : ByteArray := prog_5_method_2_code
def yX3_begin : MethodName := ⟨RX3, "begin", "(II)V"⟩
abbrev cX3_narrowed : ByteArray := prog_5_method_3_code
def yX3_narrowed : MethodName := ⟨RX3, "narrowed", "(I)I"⟩
abbrev cX3_hasSpan : ByteArray := prog_5_method_4_code
def yX3_hasSpan : MethodName := ⟨RX3, "hasSpan", "(II)Z"⟩
def RX4 : String := "HammockReach$Tape"
def TX4 : u_T := fun k => match k with
  | 0 => ("HammockReach$Tape", "bytes", "[I", true)
  | 1 => ("HammockReach$Tape", "length", "I", false)
  | 2 => ("HammockReach$Tape", "at", "I", false)
  | _ => ("HammockReach$Tape", "fault", "I", false)
def tyX4 : Nat → FieldType := fun k => match k with
  | 0 => .array .int
  | 1 => .int
  | 2 => .int
  | _ => .int
abbrev wsX40 : List Cond := u_ws RX4 TX4 4
theorem nmX4 : ∀ a, a < 4 → ∀ b, b < 4 → a ≠ b → (TX4 a).2.1 ≠ (TX4 b).2.1 := by decide +kernel
theorem tyX4_ok : ∀ k, k < 4 → parseFieldDescriptor (TX4 k).2.2.1 = some (tyX4 k) := by decide +kernel
abbrev cX4_init : ByteArray := prog_6_method_1_code
def yX4_init : MethodName := ⟨RX4, "<init>", "()V"⟩
abbrev cX4_readInto : ByteArray := prog_6_method_2_code
def yX4_readInto : MethodName := ⟨RX4, "readInto", "(LHammockReach$Forest;)Z"⟩
abbrev cX4_readLaw : ByteArray := prog_6_method_3_code
def yX4_readLaw : MethodName := ⟨RX4, "readLaw", "(LHammockReach$Forest;)Z"⟩
abbrev cX4_readHammock : ByteArray := prog_6_method_4_code
def yX4_readHammock : MethodName := ⟨RX4, "readHammock", "(LHammockReach$Forest;)Z"⟩
abbrev cX4_readTrees : ByteArray := prog_6_method_5_code
def yX4_readTrees : MethodName := ⟨RX4, "readTrees", "(LHammockReach$Forest;I)Z"⟩
abbrev cX4_readLoad : ByteArray := prog_6_method_6_code
def yX4_readLoad : MethodName := ⟨RX4, "readLoad", "(LHammockReach$Forest;I)Z"⟩
abbrev cX4_readSign : ByteArray := prog_6_method_7_code
def yX4_readSign : MethodName := ⟨RX4, "readSign", "(I)Z"⟩
abbrev cX4_readNumber : ByteArray := prog_6_method_8_code
def yX4_readNumber : MethodName := ⟨RX4, "readNumber", "(II)I"⟩
abbrev cX4_refuse : ByteArray := prog_6_method_9_code
def yX4_refuse : MethodName := ⟨RX4, "refuse", "(I)Z"⟩
abbrev cX4_byteAt : ByteArray := prog_6_method_10_code
def yX4_byteAt : MethodName := ⟨RX4, "byteAt", "(I)I"⟩
abbrev cX4_isFigure : ByteArray := prog_6_method_11_code
def yX4_isFigure : MethodName := ⟨RX4, "isFigure", "(I)Z"⟩
abbrev cX4_sortOf : ByteArray := prog_6_method_12_code
def yX4_sortOf : MethodName := ⟨RX4, "sortOf", "(I)I"⟩
def RX5 : String := "HammockReach"
def TX5 : u_T := fun k => match k with
  | 0 => ("HammockReach", "rows", "[LHammockReach$Row;", true)
  | 1 => ("HammockReach", "tape", "LHammockReach$Tape;", true)
  | 2 => ("HammockReach", "now", "LHammockReach$Forest;", true)
  | 3 => ("HammockReach", "trial", "LHammockReach$Forest;", true)
  | 4 => ("HammockReach", "images", "[LHammockReach$Forest;", true)
  | 5 => ("HammockReach", "acts", "LHammockReach$Acts;", true)
  | 6 => ("HammockReach", "outlook", "LHammockReach$Outlook;", true)
  | 7 => ("HammockReach", "traced", "[I", true)
  | 8 => ("HammockReach", "tracedCount", "I", false)
  | _ => ("HammockReach", "finding", "I", false)
def tyX5 : Nat → FieldType := fun k => match k with
  | 0 => .array (.object "HammockReach$Row")
  | 1 => .object "HammockReach$Tape"
  | 2 => .object "HammockReach$Forest"
  | 3 => .object "HammockReach$Forest"
  | 4 => .array (.object "HammockReach$Forest")
  | 5 => .object "HammockReach$Acts"
  | 6 => .object "HammockReach$Outlook"
  | 7 => .array .int
  | 8 => .int
  | _ => .int
abbrev wsX50 : List Cond := u_ws RX5 TX5 10
theorem nmX5 : ∀ a, a < 10 → ∀ b, b < 10 → a ≠ b → (TX5 a).2.1 ≠ (TX5 b).2.1 := by decide +kernel
theorem tyX5_ok : ∀ k, k < 10 → parseFieldDescriptor (TX5 k).2.2.1 = some (tyX5 k) := by decide +kernel
abbrev cX5_init : ByteArray := prog_1_method_1_code
def yX5_init : MethodName := ⟨RX5, "<init>", "()V"⟩
abbrev cX5_row : ByteArray := prog_1_method_2_code
def yX5_row : MethodName := ⟨RX5, "row", "(III)I"⟩
abbrev cX5_set : ByteArray := prog_1_method_3_code
def yX5_set : MethodName := ⟨RX5, "set", "(III)I"⟩
abbrev cX5_copy : ByteArray := prog_1_method_4_code
def yX5_copy : MethodName := ⟨RX5, "copy", "(IIIII)I"⟩
abbrev cX5_drop : ByteArray := prog_1_method_5_code
def yX5_drop : MethodName := ⟨RX5, "drop", "(I)I"⟩
abbrev cX5_feed : ByteArray := prog_1_method_6_code
def yX5_feed : MethodName := ⟨RX5, "feed", "(I)I"⟩
abbrev cX5_forest : ByteArray := prog_1_method_7_code
def yX5_forest : MethodName := ⟨RX5, "forest", "()I"⟩
abbrev cX5_fault : ByteArray := prog_1_method_8_code
def yX5_fault : MethodName := ⟨RX5, "fault", "()I"⟩
abbrev cX5_minutes : ByteArray := prog_1_method_9_code
def yX5_minutes : MethodName := ⟨RX5, "minutes", "(I)I"⟩
abbrev cX5_sling : ByteArray := prog_1_method_10_code
def yX5_sling : MethodName := ⟨RX5, "sling", "(III)I"⟩
abbrev cX5_load : ByteArray := prog_1_method_11_code
def yX5_load : MethodName := ⟨RX5, "load", "(II)I"⟩
abbrev cX5_cord : ByteArray := prog_1_method_12_code
def yX5_cord : MethodName := ⟨RX5, "cord", "(II)I"⟩
abbrev cX5_undo : ByteArray := prog_1_method_13_code
def yX5_undo : MethodName := ⟨RX5, "undo", "()I"⟩
abbrev cX5_hammock : ByteArray := prog_1_method_14_code
def yX5_hammock : MethodName := ⟨RX5, "hammock", "(II)I"⟩
abbrev cX5_ahead : ByteArray := prog_1_method_15_code
def yX5_ahead : MethodName := ⟨RX5, "ahead", "(III)I"⟩
abbrev cX5_down : ByteArray := prog_1_method_16_code
def yX5_down : MethodName := ⟨RX5, "down", "(I)I"⟩
abbrev cX5_reach : ByteArray := prog_1_method_17_code
def yX5_reach : MethodName := ⟨RX5, "reach", "(II)I"⟩
abbrev cX5_meet : ByteArray := prog_1_method_18_code
def yX5_meet : MethodName := ⟨RX5, "meet", "(II)I"⟩
abbrev cX5_soonest : ByteArray := prog_1_method_19_code
def yX5_soonest : MethodName := ⟨RX5, "soonest", "(II)I"⟩
abbrev cX5_hands : ByteArray := prog_1_method_20_code
def yX5_hands : MethodName := ⟨RX5, "hands", "(II)I"⟩
abbrev cX5_everywhere : ByteArray := prog_1_method_21_code
def yX5_everywhere : MethodName := ⟨RX5, "everywhere", "(II)I"⟩
abbrev cX5_stops : ByteArray := prog_1_method_22_code
def yX5_stops : MethodName := ⟨RX5, "stops", "(III)I"⟩
abbrev cX5_toSling : ByteArray := prog_1_method_23_code
def yX5_toSling : MethodName := ⟨RX5, "toSling", "(IIII)I"⟩
abbrev cX5_fits : ByteArray := prog_1_method_24_code
def yX5_fits : MethodName := ⟨RX5, "fits", "(IIIII)I"⟩
abbrev cX5_breaks : ByteArray := prog_1_method_25_code
def yX5_breaks : MethodName := ⟨RX5, "breaks", "(IIIII)I"⟩
abbrev cX5_image : ByteArray := prog_1_method_26_code
def yX5_image : MethodName := ⟨RX5, "image", "(I)I"⟩
abbrev cX5_restore : ByteArray := prog_1_method_27_code
def yX5_restore : MethodName := ⟨RX5, "restore", "(I)I"⟩
abbrev cX5_kind : ByteArray := prog_1_method_28_code
def yX5_kind : MethodName := ⟨RX5, "kind", "(I)I"⟩
abbrev cX5_as : ByteArray := prog_1_method_29_code
def yX5_as : MethodName := ⟨RX5, "as", "(II)I"⟩
abbrev cX5_ask : ByteArray := prog_1_method_30_code
def yX5_ask : MethodName := ⟨RX5, "ask", "(II)I"⟩
abbrev cX5_trace : ByteArray := prog_1_method_31_code
def yX5_trace : MethodName := ⟨RX5, "trace", "(I)I"⟩
abbrev cX5_count : ByteArray := prog_1_method_32_code
def yX5_count : MethodName := ⟨RX5, "count", "(I)I"⟩
abbrev cX5_status : ByteArray := prog_1_method_33_code
def yX5_status : MethodName := ⟨RX5, "status", "()I"⟩
abbrev cX5_isBelow : ByteArray := prog_1_method_34_code
def yX5_isBelow : MethodName := ⟨RX5, "isBelow", "(II)Z"⟩
abbrev cX5_isRow : ByteArray := prog_1_method_35_code
def yX5_isRow : MethodName := ⟨RX5, "isRow", "(I)Z"⟩
abbrev cX5_isAhead : ByteArray := prog_1_method_36_code
def yX5_isAhead : MethodName := ⟨RX5, "isAhead", "(I)Z"⟩
abbrev cX5_isHammock : ByteArray := prog_1_method_37_code
def yX5_isHammock : MethodName := ⟨RX5, "isHammock", "(I)Z"⟩
abbrev cX5_areTwo : ByteArray := prog_1_method_38_code
def yX5_areTwo : MethodName := ⟨RX5, "areTwo", "(II)Z"⟩
abbrev cX5_finds : ByteArray := prog_1_method_39_code
def yX5_finds : MethodName := ⟨RX5, "finds", "(I)I"⟩
abbrev cX5_countRows : ByteArray := prog_1_method_40_code
def yX5_countRows : MethodName := ⟨RX5, "countRows", "()I"⟩
abbrev cX5_fittingKinds : ByteArray := prog_1_method_41_code
def yX5_fittingKinds : MethodName := ⟨RX5, "fittingKinds", "(ILHammockReach$Row;II)I"⟩
abbrev cX5_fittingSwings : ByteArray := prog_1_method_42_code
def yX5_fittingSwings : MethodName := ⟨RX5, "fittingSwings", "(ILHammockReach$Row;II)I"⟩
abbrev cX5_fittingWeights : ByteArray := prog_1_method_43_code
def yX5_fittingWeights : MethodName := ⟨RX5, "fittingWeights", "(ILHammockReach$Row;II)I"⟩
abbrev cX5_wasThere : ByteArray := prog_1_method_44_code
def yX5_wasThere : MethodName := ⟨RX5, "wasThere", "(ILHammockReach$Row;II)Z"⟩
abbrev cX5_wasReached : ByteArray := prog_1_method_45_code
def yX5_wasReached : MethodName := ⟨RX5, "wasReached", "(ILHammockReach$Row;II)Z"⟩
abbrev cX5_partsOf : ByteArray := prog_1_method_46_code
def yX5_partsOf : MethodName := ⟨RX5, "partsOf", "(II)I"⟩
abbrev cX5_partsOfAll : ByteArray := prog_1_method_47_code
def yX5_partsOfAll : MethodName := ⟨RX5, "partsOfAll", "()I"⟩
abbrev cX5_commonDivisor : ByteArray := prog_1_method_48_code
def yX5_commonDivisor : MethodName := ⟨RX5, "commonDivisor", "(II)I"⟩
abbrev cX5_isOfKind : ByteArray := prog_1_method_49_code
def yX5_isOfKind : MethodName := ⟨RX5, "isOfKind", "(II)Z"⟩
abbrev cX5_nearestBody : ByteArray := prog_1_method_50_code
def yX5_nearestBody : MethodName := ⟨RX5, "nearestBody", "(II)I"⟩
abbrev cX5_answer : ByteArray := prog_1_method_51_code
def yX5_answer : MethodName := ⟨RX5, "answer", "(III)I"⟩
abbrev cX5_body : ByteArray := prog_1_method_52_code
def yX5_body : MethodName := ⟨RX5, "body", "(III)I"⟩
def RX6 : String := "HammockReachModel"
def TX6 : u_T := fun k => match k with
  | 0 => ("HammockReachModel", "lanes", "[I", true)
  | 1 => ("HammockReachModel", "sizes", "[I", true)
  | 2 => ("HammockReachModel", "items", "[I", true)
  | 3 => ("HammockReachModel", "status", "I", false)
  | 4 => ("HammockReachModel", "now", "[I", true)
  | 5 => ("HammockReachModel", "read", "[I", true)
  | 6 => ("HammockReachModel", "aside", "[I", true)
  | 7 => ("HammockReachModel", "past", "[I", true)
  | 8 => ("HammockReachModel", "acts", "I", false)
  | 9 => ("HammockReachModel", "images", "[I", true)
  | 10 => ("HammockReachModel", "kept", "[Z", true)
  | 11 => ("HammockReachModel", "tape", "[I", true)
  | 12 => ("HammockReachModel", "size", "I", false)
  | 13 => ("HammockReachModel", "fault", "I", false)
  | 14 => ("HammockReachModel", "trace", "[I", true)
  | 15 => ("HammockReachModel", "traced", "I", false)
  | 16 => ("HammockReachModel", "at", "I", false)
  | 17 => ("HammockReachModel", "begin", "I", false)
  | 18 => ("HammockReachModel", "token", "I", false)
  | 19 => ("HammockReachModel", "value", "I", false)
  | 20 => ("HammockReachModel", "wrong", "I", false)
  | 21 => ("HammockReachModel", "given", "[I", true)
  | _ => ("HammockReachModel", "then", "[I", true)
def tyX6 : Nat → FieldType := fun k => match k with
  | 0 => .array .int
  | 1 => .array .int
  | 2 => .array .int
  | 3 => .int
  | 4 => .array .int
  | 5 => .array .int
  | 6 => .array .int
  | 7 => .array .int
  | 8 => .int
  | 9 => .array .int
  | 10 => .array .boolean
  | 11 => .array .int
  | 12 => .int
  | 13 => .int
  | 14 => .array .int
  | 15 => .int
  | 16 => .int
  | 17 => .int
  | 18 => .int
  | 19 => .int
  | 20 => .int
  | 21 => .array .int
  | _ => .array .int
abbrev wsX60 : List Cond := u_ws RX6 TX6 23
theorem nmX6 : ∀ a, a < 23 → ∀ b, b < 23 → a ≠ b → (TX6 a).2.1 ≠ (TX6 b).2.1 := by decide +kernel
theorem tyX6_ok : ∀ k, k < 23 → parseFieldDescriptor (TX6 k).2.2.1 = some (tyX6 k) := by decide +kernel
abbrev cX6_init : ByteArray := prog_8_method_1_code
def yX6_init : MethodName := ⟨RX6, "<init>", "()V"⟩
abbrev cX6_in : ByteArray := prog_8_method_3_code
def yX6_in : MethodName := ⟨RX6, "in", "(JJJ)Z"⟩
abbrev cX6_found : ByteArray := prog_8_method_4_code
def yX6_found : MethodName := ⟨RX6, "found", "(I)I"⟩
abbrev cX6_well : ByteArray := prog_8_method_5_code
def yX6_well : MethodName := ⟨RX6, "well", "(I)I"⟩
abbrev cX6_isRow : ByteArray := prog_8_method_6_code
def yX6_isRow : MethodName := ⟨RX6, "isRow", "(I)Z"⟩
abbrev cX6_row : ByteArray := prog_8_method_7_code
def yX6_row : MethodName := ⟨RX6, "row", "(III)I"⟩
abbrev cX6_set : ByteArray := prog_8_method_8_code
def yX6_set : MethodName := ⟨RX6, "set", "(III)I"⟩
abbrev cX6_copy : ByteArray := prog_8_method_9_code
def yX6_copy : MethodName := ⟨RX6, "copy", "(IIIII)I"⟩
abbrev cX6_drop : ByteArray := prog_8_method_10_code
def yX6_drop : MethodName := ⟨RX6, "drop", "(I)I"⟩
abbrev cX6_feed : ByteArray := prog_8_method_11_code
def yX6_feed : MethodName := ⟨RX6, "feed", "(I)I"⟩
abbrev cX6_here : ByteArray := prog_8_method_12_code
def yX6_here : MethodName := ⟨RX6, "here", "()I"⟩
abbrev cX6_step : ByteArray := prog_8_method_13_code
def yX6_step : MethodName := ⟨RX6, "step", "()V"⟩
abbrev cX6_fails : ByteArray := prog_8_method_14_code
def yX6_fails : MethodName := ⟨RX6, "fails", "(I)Z"⟩
abbrev cX6_number : ByteArray := prog_8_method_15_code
def yX6_number : MethodName := ⟨RX6, "number", "(IIII)Z"⟩
abbrev cX6_sortOf : ByteArray := prog_8_method_16_code
def yX6_sortOf : MethodName := ⟨RX6, "sortOf", "(I)I"⟩
abbrev cX6_readsHammock : ByteArray := prog_8_method_17_code
def yX6_readsHammock : MethodName := ⟨RX6, "readsHammock", "()Z"⟩
abbrev cX6_reads : ByteArray := prog_8_method_18_code
def yX6_reads : MethodName := ⟨RX6, "reads", "()Z"⟩
abbrev cX6_forest : ByteArray := prog_8_method_19_code
def yX6_forest : MethodName := ⟨RX6, "forest", "()I"⟩
abbrev cX6_fault : ByteArray := prog_8_method_20_code
def yX6_fault : MethodName := ⟨RX6, "fault", "()I"⟩
abbrev cX6_copies : ByteArray := prog_8_method_21_code
def yX6_copies : MethodName := ⟨RX6, "copies", "([II[II)V"⟩
abbrev cX6_has : ByteArray := prog_8_method_22_code
def yX6_has : MethodName := ⟨RX6, "has", "(II)Z"⟩
abbrev cX6_dip : ByteArray := prog_8_method_23_code
def yX6_dip : MethodName := ⟨RX6, "dip", "([III)I"⟩
abbrev cX6_swung : ByteArray := prog_8_method_24_code
def yX6_swung : MethodName := ⟨RX6, "swung", "(II)I"⟩
abbrev cX6_where : ByteArray := prog_8_method_25_code
def yX6_where : MethodName := ⟨RX6, "where", "([III)I"⟩
abbrev cX6_isDown : ByteArray := prog_8_method_26_code
def yX6_isDown : MethodName := ⟨RX6, "isDown", "([III)Z"⟩
abbrev cX6_downOf : ByteArray := prog_8_method_27_code
def yX6_downOf : MethodName := ⟨RX6, "downOf", "([II)I"⟩
abbrev cX6_areNear : ByteArray := prog_8_method_28_code
def yX6_areNear : MethodName := ⟨RX6, "areNear", "([IIII)Z"⟩
abbrev cX6_reachOf : ByteArray := prog_8_method_29_code
def yX6_reachOf : MethodName := ⟨RX6, "reachOf", "([III)I"⟩
abbrev cX6_spread : ByteArray := prog_8_method_30_code
def yX6_spread : MethodName := ⟨RX6, "spread", "([III)I"⟩
abbrev cX6_soonestOf : ByteArray := prog_8_method_31_code
def yX6_soonestOf : MethodName := ⟨RX6, "soonestOf", "([III)I"⟩
abbrev cX6_isForest : ByteArray := prog_8_method_32_code
def yX6_isForest : MethodName := ⟨RX6, "isForest", "()Z"⟩
abbrev cX6_isHammock : ByteArray := prog_8_method_33_code
def yX6_isHammock : MethodName := ⟨RX6, "isHammock", "(I)Z"⟩
abbrev cX6_isTwo : ByteArray := prog_8_method_34_code
def yX6_isTwo : MethodName := ⟨RX6, "isTwo", "(I)Z"⟩
abbrev cX6_isSpan : ByteArray := prog_8_method_35_code
def yX6_isSpan : MethodName := ⟨RX6, "isSpan", "(I)Z"⟩
abbrev cX6_remember : ByteArray := prog_8_method_36_code
def yX6_remember : MethodName := ⟨RX6, "remember", "()V"⟩
abbrev cX6_minutes : ByteArray := prog_8_method_37_code
def yX6_minutes : MethodName := ⟨RX6, "minutes", "(I)I"⟩
abbrev cX6_sling : ByteArray := prog_8_method_38_code
def yX6_sling : MethodName := ⟨RX6, "sling", "(III)I"⟩
abbrev cX6_load : ByteArray := prog_8_method_39_code
def yX6_load : MethodName := ⟨RX6, "load", "(II)I"⟩
abbrev cX6_cord : ByteArray := prog_8_method_40_code
def yX6_cord : MethodName := ⟨RX6, "cord", "(II)I"⟩
abbrev cX6_undo : ByteArray := prog_8_method_41_code
def yX6_undo : MethodName := ⟨RX6, "undo", "()I"⟩
abbrev cX6_hammock : ByteArray := prog_8_method_42_code
def yX6_hammock : MethodName := ⟨RX6, "hammock", "(II)I"⟩
abbrev cX6_ahead : ByteArray := prog_8_method_43_code
def yX6_ahead : MethodName := ⟨RX6, "ahead", "(III)I"⟩
abbrev cX6_down : ByteArray := prog_8_method_44_code
def yX6_down : MethodName := ⟨RX6, "down", "(I)I"⟩
abbrev cX6_reach : ByteArray := prog_8_method_45_code
def yX6_reach : MethodName := ⟨RX6, "reach", "(II)I"⟩
abbrev cX6_meet : ByteArray := prog_8_method_46_code
def yX6_meet : MethodName := ⟨RX6, "meet", "(II)I"⟩
abbrev cX6_told : ByteArray := prog_8_method_47_code
def yX6_told : MethodName := ⟨RX6, "told", "(I)I"⟩
abbrev cX6_soonest : ByteArray := prog_8_method_48_code
def yX6_soonest : MethodName := ⟨RX6, "soonest", "(II)I"⟩
abbrev cX6_hands : ByteArray := prog_8_method_49_code
def yX6_hands : MethodName := ⟨RX6, "hands", "(II)I"⟩
abbrev cX6_everywhere : ByteArray := prog_8_method_50_code
def yX6_everywhere : MethodName := ⟨RX6, "everywhere", "(II)I"⟩
abbrev cX6_layAside : ByteArray := prog_8_method_51_code
def yX6_layAside : MethodName := ⟨RX6, "layAside", "()V"⟩
abbrev cX6_stops : ByteArray := prog_8_method_52_code
def yX6_stops : MethodName := ⟨RX6, "stops", "(III)I"⟩
abbrev cX6_toSling : ByteArray := prog_8_method_53_code
def yX6_toSling : MethodName := ⟨RX6, "toSling", "(IIII)I"⟩
abbrev cX6_fits : ByteArray := prog_8_method_54_code
def yX6_fits : MethodName := ⟨RX6, "fits", "(IIIII)I"⟩
abbrev cX6_breaks : ByteArray := prog_8_method_55_code
def yX6_breaks : MethodName := ⟨RX6, "breaks", "(IIIII)I"⟩
abbrev cX6_image : ByteArray := prog_8_method_56_code
def yX6_image : MethodName := ⟨RX6, "image", "(I)I"⟩
abbrev cX6_restore : ByteArray := prog_8_method_57_code
def yX6_restore : MethodName := ⟨RX6, "restore", "(I)I"⟩
abbrev cX6_kind : ByteArray := prog_8_method_58_code
def yX6_kind : MethodName := ⟨RX6, "kind", "(I)I"⟩
abbrev cX6_isOf : ByteArray := prog_8_method_59_code
def yX6_isOf : MethodName := ⟨RX6, "isOf", "(II)Z"⟩
abbrev cX6_as : ByteArray := prog_8_method_60_code
def yX6_as : MethodName := ⟨RX6, "as", "(II)I"⟩
abbrev cX6_leave : ByteArray := prog_8_method_61_code
def yX6_leave : MethodName := ⟨RX6, "leave", "(J)V"⟩
abbrev cX6_mark : ByteArray := prog_8_method_62_code
def yX6_mark : MethodName := ⟨RX6, "mark", "(I)I"⟩
abbrev cX6_sizeOf : ByteArray := prog_8_method_63_code
def yX6_sizeOf : MethodName := ⟨RX6, "sizeOf", "(I)I"⟩
abbrev cX6_ask : ByteArray := prog_8_method_64_code
def yX6_ask : MethodName := ⟨RX6, "ask", "(II)I"⟩
abbrev cX6_trace : ByteArray := prog_8_method_65_code
def yX6_trace : MethodName := ⟨RX6, "trace", "(I)I"⟩
abbrev cX6_count : ByteArray := prog_8_method_66_code
def yX6_count : MethodName := ⟨RX6, "count", "(I)I"⟩
abbrev cX6_status : ByteArray := prog_8_method_67_code
def yX6_status : MethodName := ⟨RX6, "status", "()I"⟩
def RJ6 : String := "java/lang/Integer"
def TJ6 : u_T := fun k => match k with
  | _ => ("", "", "", false)
def tyJ6 : Nat → FieldType := fun k => match k with
  | _ => .int
abbrev wsJ60 : List Cond := u_ws RJ6 TJ6 0
theorem nmJ6 : ∀ a, a < 0 → ∀ b, b < 0 → a ≠ b → (TJ6 a).2.1 ≠ (TJ6 b).2.1 := by decide +kernel
theorem tyJ6_ok : ∀ k, k < 0 → parseFieldDescriptor (TJ6 k).2.2.1 = some (tyJ6 k) := by decide +kernel
abbrev cJ6_bitCount_0f7a4 : ByteArray := prog_9_method_49_code
def yJ6_bitCount_0f7a4 : MethodName := ⟨RJ6, "bitCount", "(I)I"⟩
def RJ9 : String := "java/lang/Math"
def TJ9 : u_T := fun k => match k with
  | _ => ("", "", "", false)
def tyJ9 : Nat → FieldType := fun k => match k with
  | _ => .int
abbrev wsJ90 : List Cond := u_ws RJ9 TJ9 0
theorem nmJ9 : ∀ a, a < 0 → ∀ b, b < 0 → a ≠ b → (TJ9 a).2.1 ≠ (TJ9 b).2.1 := by decide +kernel
theorem tyJ9_ok : ∀ k, k < 0 → parseFieldDescriptor (TJ9 k).2.2.1 = some (tyJ9 k) := by decide +kernel
abbrev cJ9_abs_0f7a4 : ByteArray := prog_10_method_59_code
def yJ9_abs_0f7a4 : MethodName := ⟨RJ9, "abs", "(I)I"⟩
def RJ10 : String := "java/lang/System"
def TJ10 : u_T := fun k => match k with
  | _ => ("", "", "", false)
def tyJ10 : Nat → FieldType := fun k => match k with
  | _ => .int
abbrev wsJ100 : List Cond := u_ws RJ10 TJ10 0
theorem nmJ10 : ∀ a, a < 0 → ∀ b, b < 0 → a ≠ b → (TJ10 a).2.1 ≠ (TJ10 b).2.1 := by decide +kernel
theorem tyJ10_ok : ∀ k, k < 0 → parseFieldDescriptor (TJ10 k).2.2.1 = some (tyJ10 k) := by decide +kernel
def RL : String := "HammockReachLaw"
abbrev cL_law : ByteArray := code
def yL_law : MethodName := ⟨RL, "law", "([I)Z"⟩

abbrev vwCl : List vw_C := [(RX0, TX0, 6), (RX1, TX1, 11), (RX2, TX2, 4), (RX3, TX3, 3), (RX4, TX4, 4), (RX5, TX5, 10), (RX6, TX6, 23)]
end
section
/-! ===== worlds as lists of cells, a reference being its place ===== -/
abbrev xE : Type := (Nat × vp_A) ⊕ (Nat × List Value)
def xV (ρ : Nat → Nat) (v : Value) : Value := match v with
  | .ref a => .ref (ρ a)
  | v => v
def xA (ρ : Nat → Nat) (a : vp_A) : vp_A := match a with
  | (n, .inr (.inr (.inr (.inr g)))) => (n, .inr (.inr (.inr (.inr (fun k => (g k).map ρ)))))
  | a => a
def xC (ρ : Nat → Nat) (τ : Nat → ClassId) (x : xE) : va_E := match x with
  | .inl a => .inl (τ a.1, xA ρ a.2)
  | .inr o => .inr (o.1, o.2.map (xV ρ))
def xW (ρ : Nat → Nat) (τ : Nat → ClassId) (θ : List xE) : va_W := θ.mapIdx (fun i x => (ρ i, xC ρ τ x))
theorem xW_get {ρ : Nat → Nat} {τ : Nat → ClassId} {θ : List xE} {i : Nat} : (xW ρ τ θ)[i]? = (θ[i]?).map (fun x => (ρ i, xC ρ τ x)) := by
  simp [xW]
theorem xW_at {ρ : Nat → Nat} {τ : Nat → ClassId} {θ : List xE} {i : Nat} {x : xE} (h : θ[i]? = some x) : (xW ρ τ θ)[i]? = some (ρ i, xC ρ τ x) := by
  rw [xW_get, h]; rfl
theorem xW_set {ρ : Nat → Nat} {τ : Nat → ClassId} {θ : List xE} {i : Nat} {x : xE} : (xW ρ τ θ).set i (ρ i, xC ρ τ x) = xW ρ τ (θ.set i x) := by
  apply List.ext_getElem?
  intro j
  rw [xW_get, List.getElem?_set, List.getElem?_set, xW_get]
  have hlen : (xW ρ τ θ).length = θ.length := by simp [xW]
  by_cases hij : i = j
  · subst hij
    simp only [if_true, hlen]
    split <;> rfl
  · simp only [if_neg hij]
theorem xW_len {ρ : Nat → Nat} {τ : Nat → ClassId} {θ : List xE} : (xW ρ τ θ).length = θ.length := by simp [xW]
theorem xV_cat (ρ : Nat → Nat) (v : Value) : (xV ρ v).category = v.category := by cases v <;> rfl
/-- the locals -/
def xL (ρ : Nat → Nat) (ls : Array Slot) (lv : List (Option Value)) : Prop := ls.size = lv.length ∧ lv_wf ls ∧ ∀ (i : Nat) (v : Value), lv[i]? = some (some v) → ls[i]? = some (.val (xV ρ v))
def xLl (ρ : Nat → Nat) (lv : List (Option Value)) : List (Nat × Value) := (List.range lv.length).filterMap (fun i => match lv[i]? with | some (some v) => some (i, xV ρ v) | _ => none)
theorem xLl_in {ρ : Nat → Nat} {lv : List (Option Value)} {q : Nat × Value} : q ∈ xLl ρ lv ↔ ∃ v, lv[q.1]? = some (some v) ∧ q.2 = xV ρ v := by
  unfold xLl
  rw [List.mem_filterMap]
  constructor
  · rintro ⟨i, -, h⟩
    split at h
    · rename_i v hv
      cases h
      exact ⟨v, hv, rfl⟩
    · cases h
  · rintro ⟨v, hv, hq⟩
    refine ⟨q.1, List.mem_range.mpr (List.getElem?_eq_some_iff.mp hv).1, ?_⟩
    rw [hv]
    simp only [← hq]
theorem xL_has {ρ : Nat → Nat} {ls : Array Slot} {lv : List (Option Value)} (h : xL ρ ls lv) : lv_has ls lv.length (xLl ρ lv) := by
  refine ⟨h.1, h.2.1, fun q hq => ?_⟩
  obtain ⟨v, hv, e⟩ := xLl_in.mp hq
  rw [e]
  exact h.2.2 q.1 v hv
/-- no long stands just below the place i -/
def xN (lv : List (Option Value)) (i : Nat) : Prop := match i with
  | 0 => True
  | j + 1 => match lv[j]? with
    | some (some (.long _)) => False
    | some (some (.double _)) => False
    | _ => True
theorem xL_set1 {ρ : Nat → Nat} {ls' : Array Slot} {lv : List (Option Value)} {i : Nat} {v : Value} (hi : i < lv.length) (hn : xN lv i) (h' : lv_has ls' lv.length ((i, xV ρ v) :: (xLl ρ lv).filter (fun q => !(q.1 == i) && !(q.1 + 1 == i && q.2.category == 2)))) : xL ρ ls' (lv.set i (some v)) := by
  refine ⟨by rw [h'.1, List.length_set], h'.2.1, fun j w hw => ?_⟩
  rw [List.getElem?_set] at hw
  by_cases hij : i = j
  · subst hij
    rw [if_pos rfl, if_pos hi] at hw
    cases hw
    exact h'.2.2 (i, xV ρ v) List.mem_cons_self
  · rw [if_neg hij] at hw
    refine h'.2.2 (j, xV ρ w) (List.mem_cons_of_mem _ (List.mem_filter.mpr ⟨xLl_in.mpr ⟨w, hw, rfl⟩, ?_⟩))
    have h1 : (j == i) = false := by simp; omega
    by_cases h2 : j + 1 = i
    · subst h2
      have h3 : (xV ρ w).category ≠ 2 := by
        rw [xV_cat]
        intro h4
        simp only [xN, hw] at hn
        cases w <;> simp [Value.category] at h4 hn
      simp [h1, h3]
    · simp [h1, h2]
theorem xL_set2 {ρ : Nat → Nat} {ls' : Array Slot} {lv : List (Option Value)} {i : Nat} {v : Value} (hi : i + 1 < lv.length) (hn : xN lv i) (h' : lv_has ls' lv.length ((i, xV ρ v) :: (xLl ρ lv).filter (fun q => !(q.1 == i) && (!(q.1 == i + 1) && !(q.1 + 1 == i && q.2.category == 2))))) : xL ρ ls' ((lv.set i (some v)).set (i + 1) none) := by
  refine ⟨by rw [h'.1, List.length_set, List.length_set], h'.2.1, fun j w hw => ?_⟩
  rw [List.getElem?_set, List.getElem?_set, List.length_set] at hw
  by_cases hi1 : i + 1 = j
  · subst hi1
    rw [if_pos rfl, if_pos hi] at hw
    cases hw
  rw [if_neg hi1] at hw
  by_cases hij : i = j
  · subst hij
    rw [if_pos rfl, if_pos (by omega)] at hw
    cases hw
    exact h'.2.2 (i, xV ρ v) List.mem_cons_self
  · rw [if_neg hij] at hw
    refine h'.2.2 (j, xV ρ w) (List.mem_cons_of_mem _ (List.mem_filter.mpr ⟨xLl_in.mpr ⟨w, hw, rfl⟩, ?_⟩))
    have h1 : (j == i) = false := by simp; omega
    have h1b : (j == i + 1) = false := by simp; omega
    by_cases h2 : j + 1 = i
    · subst h2
      have h3 : (xV ρ w).category ≠ 2 := by
        rw [xV_cat]
        intro h4
        simp only [xN, hw] at hn
        cases w <;> simp [Value.category] at h4 hn
      simp [h1, h1b, h3]
    · simp [h1, h1b, h2]
/-- the kinds of arrays that worlds hold: 0 int, 1 boolean, 2 rows of forests, 3 rows of Rows -/
def xT (τ : Nat → ClassId) : List (ClassId × FieldType) := [(τ 0, .int), (τ 1, .boolean), (τ 2, .object "HammockReach$Forest"), (τ 3, .object "HammockReach$Row")]
/-- the three tables that nobody writes -/
def xtab1 : Nat → Int32 := fun k => match k with | 0 => 0 | 1 => 0 | 2 => 1 | 3 => 1 | 4 => 0 | _ => 4
def xtab2 : Nat → Int32 := fun k => match k with | 0 => 10 | 1 => 11 | 2 => 12 | 3 => 0 | 4 => 13 | _ => 14
def xtab3 : Nat → Int32 := fun k => match k with | 0 => 20 | 1 => 21 | 2 => 24 | 3 => 22 | 4 => 23 | _ => 0
def xTab1 (nm : String) (f : Nat → Int32) (A : Nat → Prop) (U : State) : Prop := ∃ t : Nat, va_Z "HammockReach" nm "[I" (.ref t) A U U.heap ∧ va_T .int t 6 (fun j => .int (f j)) A U U.heap
def xTab (A : Nat → Prop) (U : State) : Prop := xTab1 "ABOVE" xtab1 A U ∧ xTab1 "SIZE_BODIES" xtab2 A U ∧ xTab1 "MARK_BODIES" xtab3 A U
theorem xTab1.moves {nm : String} {f : Nat → Int32} {A B : Nat → Prop} {u U : State} (hvm : u.vm.Alike U.vm) (hq : ∀ a : Nat, a < u.heap.size → ¬ A a → U.heap[a]? = u.heap[a]?) (hAB : ∀ q, B q → A q) (h : xTab1 nm f A u) : xTab1 nm f B U := by
  obtain ⟨t, h1, h2⟩ := h
  exact ⟨t, ((h1.moved hvm).kept hq).narrow hAB, ((h2.moved hvm).kept hq).narrow hAB⟩
theorem xTab.moves {A B : Nat → Prop} {u U : State} (hvm : u.vm.Alike U.vm) (hq : ∀ a : Nat, a < u.heap.size → ¬ A a → U.heap[a]? = u.heap[a]?) (hAB : ∀ q, B q → A q) (h : xTab A u) : xTab B U := ⟨h.1.moves hvm hq hAB, h.2.1.moves hvm hq hAB, h.2.2.moves hvm hq hAB⟩
/-- links of nest mates -/
def xNw : List Cond := [.methodLinkNest "HammockReach" 17 ⟨"HammockReach$Tape", "<init>", "()V"⟩ "HammockReach", .methodLinkNest "HammockReach" 24 ⟨"HammockReach$Forest", "<init>", "()V"⟩ "HammockReach", .methodLinkNest "HammockReach" 38 ⟨"HammockReach$Acts", "<init>", "()V"⟩ "HammockReach", .methodLinkNest "HammockReach" 45 ⟨"HammockReach$Outlook", "<init>", "()V"⟩ "HammockReach", .methodLinkNest "HammockReach" 54 ⟨"HammockReach$Row", "<init>", "()V"⟩ "HammockReach", .methodLinkNest "HammockReach$Tape" 89 ⟨"HammockReach", "isBelow", "(II)Z"⟩ "HammockReach"]
def xNest (U : State) : Prop := ∀ w ∈ xNw, va_Nw w U
theorem xNest.warm {s U : State} (hW : s.WarmedH U.vm) (h : xNest s) : xNest U := by
  intro w hw
  have h1 := h w hw
  simp only [xNw, List.mem_cons, List.not_mem_nil, or_false] at hw
  rcases hw with rfl | rfl | rfl | rfl | rfl | rfl <;> exact va_Nw.warmM hW h1
theorem xNest.same {u U : State} (hv : u.vm = U.vm) (h : xNest u) : xNest U := by
  intro w hw
  have h1 := h w hw
  simp only [xNw, List.mem_cons, List.not_mem_nil, or_false] at hw
  rcases hw with rfl | rfl | rfl | rfl | rfl | rfl <;> exact va_Nw.same rfl hv h1
/-- the words of the tables that every method may use -/
def TT : List Cond := lw_tbl.filter goodWord
theorem TT_mem {w : Cond} (i : Nat) (h : tables_1[i]? = some w) (hg : goodWord w = true) : w ∈ TT := List.mem_filter.mpr ⟨List.mem_append_right _ (List.mem_of_getElem? h), hg⟩
theorem TT_sel {w : Cond} (i : Nat) (h : (k2_sels lw_privs)[i]? = some w) (hg : goodWord w = true) : w ∈ TT := List.mem_filter.mpr ⟨List.mem_append_left _ (List.mem_of_getElem? h), hg⟩
theorem TT_good {w : Cond} (h : w ∈ TT) : goodWord w = true := (List.mem_filter.mp h).2
/-- the addresses: old ones, and the new ones behind them -/
def xX (ρ : Nat → Nat) (n : Nat) (nw : List Nat) : Nat → Nat := fun i => if i < n then ρ i else match nw[i - n]? with
  | some a => a
  | none => ρ i
theorem xX_nil (ρ : Nat → Nat) (n : Nat) : xX ρ n [] = ρ := by
  funext i
  simp [xX]
def xR (ρ0 : Nat → Nat) (n0 N : Nat) (ρ : Nat → Nat) : Prop := ∃ nw : List Nat, N = n0 + nw.length ∧ ρ = xX ρ0 n0 nw
def G (p : Program) (l : Launch) (e : Env) (R : Room) (s : State) (m : MethodId) (args : Array Value) (below : List Frame) (meth : Method) (c : Code) (D : va_G) (A : Nat → Prop) (τ : Nat → ClassId) (ρ0 : Nat → Nat) (n0 : Nat) (Q : State → Prop) (k n : Nat) (θ : List xE) (pc : Nat) (lv : List (Option Value)) (st : List Value) : Prop :=
  ∀ (ρ : Nat → Nat) (H : Heap) (locs : List Loc) (ls : Array Slot), xR ρ0 n0 θ.length ρ → va_P D vwCl (xW ρ τ θ) H → va_D A (xW ρ τ θ) → va_S A s.heap H locs → xL ρ ls lv → W p l e R s m args below meth c H locs k n Q (F0 m pc ls (st.map (xV ρ)))
def Sem (cc : ByteArray) (own nm : String) (nL : Nat) (R : Room) (g : Nat → Nat → List xE → Nat → List (Option Value) → List Value → Prop) : Prop :=
  ∃ (p : Program) (l : Launch) (e : Env) (s : State) (m : MethodId) (args : Array Value) (below : List Frame) (meth : Method) (c : Code) (D : va_G) (A : Nat → Prop) (τ : Nat → ClassId) (ρ0 : Nat → Nat) (n0 : Nat) (Q : State → Prop),
    (p.tables.exec = Jvm.exec ∧ c.code = cc ∧ (∀ w ∈ TT, w.before args s = true) ∧ s.vm.findClass own = some m.cls ∧ meth.name = nm ∧ c.maxLocals = nL) ∧ (va_K D vwCl (xT τ) s ∧ (∀ q : Nat, s.heap.size ≤ q → A q) ∧ (xTab A s ∧ xNest s)) ∧ g = G p l e R s m args below meth c D A τ ρ0 n0 Q
section FW
variable {cc : ByteArray} {own nm : String} {nL : Nat} {R : Room} {g : Nat → Nat → List xE → Nat → List (Option Value) → List Value → Prop} {k n : Nat} {θ : List xE} {pc : Nat} {lv : List (Option Value)} {st : List Value}
theorem r_iconst (C : Sem cc own nm nL R g) {z : Int} {v : Int32} (d : decode cc pc = .ok (.iconst z, 1)) (hv : Int32.ofInt z = v) (kk : g k n θ (pc + 1) lv (.int v :: st)) : g k n θ pc lv st := by
  obtain ⟨p, l, e, s, m, args, below, meth, c, D, A, τ, ρ0, n0, Q, ⟨hx, hb, hts, hown, hnm, hml⟩, ⟨hK, hA, hT⟩, rfl⟩ := C
  exact fun ρ H locs ls h1 h3 h4 h5 h6 => lv_iconst hx hb d hv (kk ρ H locs ls h1 h3 h4 h5 h6)
theorem r_bipush (C : Sem cc own nm nL R g) {z : Int} {v : Int32} (d : decode cc pc = .ok (.bipush z, 2)) (hv : (Int8.ofInt z).toInt32 = v) (kk : g k n θ (pc + 2) lv (.int v :: st)) : g k n θ pc lv st := by
  obtain ⟨p, l, e, s, m, args, below, meth, c, D, A, τ, ρ0, n0, Q, ⟨hx, hb, hts, hown, hnm, hml⟩, ⟨hK, hA, hT⟩, rfl⟩ := C
  exact fun ρ H locs ls h1 h3 h4 h5 h6 => lv_bipush hx hb d hv (kk ρ H locs ls h1 h3 h4 h5 h6)
theorem r_sipush (C : Sem cc own nm nL R g) {z : Int} {v : Int32} (d : decode cc pc = .ok (.sipush z, 3)) (hv : (Int16.ofInt z).toInt32 = v) (kk : g k n θ (pc + 3) lv (.int v :: st)) : g k n θ pc lv st := by
  obtain ⟨p, l, e, s, m, args, below, meth, c, D, A, τ, ρ0, n0, Q, ⟨hx, hb, hts, hown, hnm, hml⟩, ⟨hK, hA, hT⟩, rfl⟩ := C
  exact fun ρ H locs ls h1 h3 h4 h5 h6 => lv_sipush hx hb d hv (kk ρ H locs ls h1 h3 h4 h5 h6)
theorem r_ldc (C : Sem cc own nm nL R g) {ix : Nat} {v : Int32} (d : decode cc pc = .ok (.ldc ix, 2)) (hw : Cond.constant own ix v ∈ TT) (kk : g k n θ (pc + 2) lv (.int v :: st)) : g k n θ pc lv st := by
  obtain ⟨p, l, e, s, m, args, below, meth, c, D, A, τ, ρ0, n0, Q, ⟨hx, hb, hts, hown, hnm, hml⟩, ⟨hK, hA, hT⟩, rfl⟩ := C
  exact fun ρ H locs ls h1 h3 h4 h5 h6 => lv_ldc hx hb hown (hts _ hw) d (kk ρ H locs ls h1 h3 h4 h5 h6)
theorem r_iload_n (C : Sem cc own nm nL R g) {j : Fin 4} {i : Nat} {x : Int32} (d : decode cc pc = .ok (.iload_n j, 1)) (hi : (j : Nat) = i) (hl : lv[i]? = some (some (.int x))) (kk : g k n θ (pc + 1) lv (.int x :: st)) : g k n θ pc lv st := by
  obtain ⟨p, l, e, s, m, args, below, meth, c, D, A, τ, ρ0, n0, Q, ⟨hx, hb, hts, hown, hnm, hml⟩, ⟨hK, hA, hT⟩, rfl⟩ := C
  exact fun ρ H locs ls h1 h3 h4 h5 h6 => lv_iload_n hx hb d hi (h6.2.2 i _ hl) (kk ρ H locs ls h1 h3 h4 h5 h6)
theorem r_iload (C : Sem cc own nm nL R g) {i : Nat} {x : Int32} (d : decode cc pc = .ok (.iload i, 2)) (hl : lv[i]? = some (some (.int x))) (kk : g k n θ (pc + 2) lv (.int x :: st)) : g k n θ pc lv st := by
  obtain ⟨p, l, e, s, m, args, below, meth, c, D, A, τ, ρ0, n0, Q, ⟨hx, hb, hts, hown, hnm, hml⟩, ⟨hK, hA, hT⟩, rfl⟩ := C
  exact fun ρ H locs ls h1 h3 h4 h5 h6 => lv_iload hx hb d (h6.2.2 i _ hl) (kk ρ H locs ls h1 h3 h4 h5 h6)
theorem r_lload_n (C : Sem cc own nm nL R g) {j : Fin 4} {i : Nat} {x : Int64} (d : decode cc pc = .ok (.lload_n j, 1)) (hi : (j : Nat) = i) (hl : lv[i]? = some (some (.long x))) (kk : g k n θ (pc + 1) lv (.long x :: st)) : g k n θ pc lv st := by
  obtain ⟨p, l, e, s, m, args, below, meth, c, D, A, τ, ρ0, n0, Q, ⟨hx, hb, hts, hown, hnm, hml⟩, ⟨hK, hA, hT⟩, rfl⟩ := C
  exact fun ρ H locs ls h1 h3 h4 h5 h6 => lv_lload_n hx hb d hi (h6.2.2 i _ hl) (kk ρ H locs ls h1 h3 h4 h5 h6)
theorem r_lload (C : Sem cc own nm nL R g) {i : Nat} {x : Int64} (d : decode cc pc = .ok (.lload i, 2)) (hl : lv[i]? = some (some (.long x))) (kk : g k n θ (pc + 2) lv (.long x :: st)) : g k n θ pc lv st := by
  obtain ⟨p, l, e, s, m, args, below, meth, c, D, A, τ, ρ0, n0, Q, ⟨hx, hb, hts, hown, hnm, hml⟩, ⟨hK, hA, hT⟩, rfl⟩ := C
  exact fun ρ H locs ls h1 h3 h4 h5 h6 => lv_lload hx hb d (h6.2.2 i _ hl) (kk ρ H locs ls h1 h3 h4 h5 h6)
theorem r_aload_n (C : Sem cc own nm nL R g) {j : Fin 4} {i : Nat} {x : Nat} (d : decode cc pc = .ok (.aload_n j, 1)) (hi : (j : Nat) = i) (hl : lv[i]? = some (some (.ref x))) (kk : g k n θ (pc + 1) lv (.ref x :: st)) : g k n θ pc lv st := by
  obtain ⟨p, l, e, s, m, args, below, meth, c, D, A, τ, ρ0, n0, Q, ⟨hx, hb, hts, hown, hnm, hml⟩, ⟨hK, hA, hT⟩, rfl⟩ := C
  exact fun ρ H locs ls h1 h3 h4 h5 h6 => lv_aload_n hx hb d hi (h6.2.2 i _ hl) (kk ρ H locs ls h1 h3 h4 h5 h6)
theorem r_aload (C : Sem cc own nm nL R g) {i : Nat} {x : Nat} (d : decode cc pc = .ok (.aload i, 2)) (hl : lv[i]? = some (some (.ref x))) (kk : g k n θ (pc + 2) lv (.ref x :: st)) : g k n θ pc lv st := by
  obtain ⟨p, l, e, s, m, args, below, meth, c, D, A, τ, ρ0, n0, Q, ⟨hx, hb, hts, hown, hnm, hml⟩, ⟨hK, hA, hT⟩, rfl⟩ := C
  exact fun ρ H locs ls h1 h3 h4 h5 h6 => lv_aload hx hb d (h6.2.2 i _ hl) (kk ρ H locs ls h1 h3 h4 h5 h6)
theorem r_istore_n (C : Sem cc own nm nL R g) {j : Fin 4} {i : Nat} {x : Int32} {lv' : List (Option Value)} (d : decode cc pc = .ok (.istore_n j, 1)) (hi : (j : Nat) = i) (hn : i < lv.length) (hf : xN lv i) (hl : lv.set i (some (.int x)) = lv') (kk : g k n θ (pc + 1) lv' st) : g k n θ pc lv (.int x :: st) := by
  obtain ⟨p, l, e, s, m, args, below, meth, c, D, A, τ, ρ0, n0, Q, ⟨hx, hb, hts, hown, hnm, hml⟩, ⟨hK, hA, hT⟩, rfl⟩ := C
  subst hl
  exact fun ρ H locs ls h1 h3 h4 h5 h6 => lv_istore_n hx hb d hi (xL_has h6) hn rfl (fun ls' h => kk ρ H locs ls' h1 h3 h4 h5 (xL_set1 (v := .int x) hn hf h))
theorem r_istore (C : Sem cc own nm nL R g) {i : Nat} {x : Int32} {lv' : List (Option Value)} (d : decode cc pc = .ok (.istore i, 2)) (hn : i < lv.length) (hf : xN lv i) (hl : lv.set i (some (.int x)) = lv') (kk : g k n θ (pc + 2) lv' st) : g k n θ pc lv (.int x :: st) := by
  obtain ⟨p, l, e, s, m, args, below, meth, c, D, A, τ, ρ0, n0, Q, ⟨hx, hb, hts, hown, hnm, hml⟩, ⟨hK, hA, hT⟩, rfl⟩ := C
  subst hl
  exact fun ρ H locs ls h1 h3 h4 h5 h6 => lv_istore hx hb d (xL_has h6) hn rfl (fun ls' h => kk ρ H locs ls' h1 h3 h4 h5 (xL_set1 (v := .int x) hn hf h))
theorem r_astore_n (C : Sem cc own nm nL R g) {j : Fin 4} {i : Nat} {x : Nat} {lv' : List (Option Value)} (d : decode cc pc = .ok (.astore_n j, 1)) (hi : (j : Nat) = i) (hn : i < lv.length) (hf : xN lv i) (hl : lv.set i (some (.ref x)) = lv') (kk : g k n θ (pc + 1) lv' st) : g k n θ pc lv (.ref x :: st) := by
  obtain ⟨p, l, e, s, m, args, below, meth, c, D, A, τ, ρ0, n0, Q, ⟨hx, hb, hts, hown, hnm, hml⟩, ⟨hK, hA, hT⟩, rfl⟩ := C
  subst hl
  exact fun ρ H locs ls h1 h3 h4 h5 h6 => lv_astore_n hx hb d hi (xL_has h6) hn rfl (fun ls' h => kk ρ H locs ls' h1 h3 h4 h5 (xL_set1 (v := .ref x) hn hf h))
theorem r_astore (C : Sem cc own nm nL R g) {i : Nat} {x : Nat} {lv' : List (Option Value)} (d : decode cc pc = .ok (.astore i, 2)) (hn : i < lv.length) (hf : xN lv i) (hl : lv.set i (some (.ref x)) = lv') (kk : g k n θ (pc + 2) lv' st) : g k n θ pc lv (.ref x :: st) := by
  obtain ⟨p, l, e, s, m, args, below, meth, c, D, A, τ, ρ0, n0, Q, ⟨hx, hb, hts, hown, hnm, hml⟩, ⟨hK, hA, hT⟩, rfl⟩ := C
  subst hl
  exact fun ρ H locs ls h1 h3 h4 h5 h6 => lv_astore hx hb d (xL_has h6) hn rfl (fun ls' h => kk ρ H locs ls' h1 h3 h4 h5 (xL_set1 (v := .ref x) hn hf h))
theorem r_lstore_n (C : Sem cc own nm nL R g) {j : Fin 4} {i : Nat} {x : Int64} {lv' : List (Option Value)} (d : decode cc pc = .ok (.lstore_n j, 1)) (hi : (j : Nat) = i) (hn : i + 1 < lv.length) (hf : xN lv i) (hl : (lv.set i (some (.long x))).set (i + 1) none = lv') (kk : g k n θ (pc + 1) lv' st) : g k n θ pc lv (.long x :: st) := by
  obtain ⟨p, l, e, s, m, args, below, meth, c, D, A, τ, ρ0, n0, Q, ⟨hx, hb, hts, hown, hnm, hml⟩, ⟨hK, hA, hT⟩, rfl⟩ := C
  subst hl
  exact fun ρ H locs ls h1 h3 h4 h5 h6 => lv_lstore_n hx hb d hi (xL_has h6) hn rfl (fun ls' h => kk ρ H locs ls' h1 h3 h4 h5 (xL_set2 (v := .long x) hn hf h))
theorem r_lstore (C : Sem cc own nm nL R g) {i : Nat} {x : Int64} {lv' : List (Option Value)} (d : decode cc pc = .ok (.lstore i, 2)) (hn : i + 1 < lv.length) (hf : xN lv i) (hl : (lv.set i (some (.long x))).set (i + 1) none = lv') (kk : g k n θ (pc + 2) lv' st) : g k n θ pc lv (.long x :: st) := by
  obtain ⟨p, l, e, s, m, args, below, meth, c, D, A, τ, ρ0, n0, Q, ⟨hx, hb, hts, hown, hnm, hml⟩, ⟨hK, hA, hT⟩, rfl⟩ := C
  subst hl
  exact fun ρ H locs ls h1 h3 h4 h5 h6 => lv_lstore hx hb d (xL_has h6) hn rfl (fun ls' h => kk ρ H locs ls' h1 h3 h4 h5 (xL_set2 (v := .long x) hn hf h))
end FW
end
section
section FW
variable {cc : ByteArray} {own nm : String} {nL : Nat} {R : Room} {g : Nat → Nat → List xE → Nat → List (Option Value) → List Value → Prop} {k n : Nat} {θ : List xE} {pc : Nat} {lv : List (Option Value)} {st : List Value}
theorem r_iadd (C : Sem cc own nm nL R g) {x y : Int32} (d : decode cc pc = .ok (.iadd, 1))  (kk : g k n θ (pc + 1) lv (.int (x + y) :: st)) : g k n θ pc lv (.int y :: .int x :: st) := by
  obtain ⟨p, l, e, s, m, args, below, meth, c, D, A, τ, ρ0, n0, Q, ⟨hx, hb, hts, hown, hnm, hml⟩, ⟨hK, hA, hT⟩, rfl⟩ := C
  exact fun ρ H locs ls h1 h3 h4 h5 h6 => lv_iadd hx hb d  (kk ρ H locs ls h1 h3 h4 h5 h6)
theorem r_isub (C : Sem cc own nm nL R g) {x y : Int32} (d : decode cc pc = .ok (.isub, 1))  (kk : g k n θ (pc + 1) lv (.int (x - y) :: st)) : g k n θ pc lv (.int y :: .int x :: st) := by
  obtain ⟨p, l, e, s, m, args, below, meth, c, D, A, τ, ρ0, n0, Q, ⟨hx, hb, hts, hown, hnm, hml⟩, ⟨hK, hA, hT⟩, rfl⟩ := C
  exact fun ρ H locs ls h1 h3 h4 h5 h6 => lv_isub hx hb d  (kk ρ H locs ls h1 h3 h4 h5 h6)
theorem r_imul (C : Sem cc own nm nL R g) {x y : Int32} (d : decode cc pc = .ok (.imul, 1))  (kk : g k n θ (pc + 1) lv (.int (x * y) :: st)) : g k n θ pc lv (.int y :: .int x :: st) := by
  obtain ⟨p, l, e, s, m, args, below, meth, c, D, A, τ, ρ0, n0, Q, ⟨hx, hb, hts, hown, hnm, hml⟩, ⟨hK, hA, hT⟩, rfl⟩ := C
  exact fun ρ H locs ls h1 h3 h4 h5 h6 => lv_imul hx hb d  (kk ρ H locs ls h1 h3 h4 h5 h6)
theorem r_iand (C : Sem cc own nm nL R g) {x y : Int32} (d : decode cc pc = .ok (.iand, 1))  (kk : g k n θ (pc + 1) lv (.int (x &&& y) :: st)) : g k n θ pc lv (.int y :: .int x :: st) := by
  obtain ⟨p, l, e, s, m, args, below, meth, c, D, A, τ, ρ0, n0, Q, ⟨hx, hb, hts, hown, hnm, hml⟩, ⟨hK, hA, hT⟩, rfl⟩ := C
  exact fun ρ H locs ls h1 h3 h4 h5 h6 => lv_iand hx hb d  (kk ρ H locs ls h1 h3 h4 h5 h6)
theorem r_ior (C : Sem cc own nm nL R g) {x y : Int32} (d : decode cc pc = .ok (.ior, 1))  (kk : g k n θ (pc + 1) lv (.int (x ||| y) :: st)) : g k n θ pc lv (.int y :: .int x :: st) := by
  obtain ⟨p, l, e, s, m, args, below, meth, c, D, A, τ, ρ0, n0, Q, ⟨hx, hb, hts, hown, hnm, hml⟩, ⟨hK, hA, hT⟩, rfl⟩ := C
  exact fun ρ H locs ls h1 h3 h4 h5 h6 => lv_ior hx hb d  (kk ρ H locs ls h1 h3 h4 h5 h6)
theorem r_ixor (C : Sem cc own nm nL R g) {x y : Int32} (d : decode cc pc = .ok (.ixor, 1))  (kk : g k n θ (pc + 1) lv (.int (x ^^^ y) :: st)) : g k n θ pc lv (.int y :: .int x :: st) := by
  obtain ⟨p, l, e, s, m, args, below, meth, c, D, A, τ, ρ0, n0, Q, ⟨hx, hb, hts, hown, hnm, hml⟩, ⟨hK, hA, hT⟩, rfl⟩ := C
  exact fun ρ H locs ls h1 h3 h4 h5 h6 => lv_ixor hx hb d  (kk ρ H locs ls h1 h3 h4 h5 h6)
theorem r_idiv (C : Sem cc own nm nL R g) {x y : Int32} (d : decode cc pc = .ok (.idiv, 1)) (hne : ¬ y = 0) (kk : g k n θ (pc + 1) lv (.int (x / y) :: st)) : g k n θ pc lv (.int y :: .int x :: st) := by
  obtain ⟨p, l, e, s, m, args, below, meth, c, D, A, τ, ρ0, n0, Q, ⟨hx, hb, hts, hown, hnm, hml⟩, ⟨hK, hA, hT⟩, rfl⟩ := C
  exact fun ρ H locs ls h1 h3 h4 h5 h6 => lv_idiv hx hb d hne (kk ρ H locs ls h1 h3 h4 h5 h6)
theorem r_irem (C : Sem cc own nm nL R g) {x y : Int32} (d : decode cc pc = .ok (.irem, 1)) (hne : ¬ y = 0) (kk : g k n θ (pc + 1) lv (.int (x - x / y * y) :: st)) : g k n θ pc lv (.int y :: .int x :: st) := by
  obtain ⟨p, l, e, s, m, args, below, meth, c, D, A, τ, ρ0, n0, Q, ⟨hx, hb, hts, hown, hnm, hml⟩, ⟨hK, hA, hT⟩, rfl⟩ := C
  exact fun ρ H locs ls h1 h3 h4 h5 h6 => lv_irem hx hb d hne (kk ρ H locs ls h1 h3 h4 h5 h6)
theorem r_ineg (C : Sem cc own nm nL R g) {x : Int32} (d : decode cc pc = .ok (.ineg, 1))  (kk : g k n θ (pc + 1) lv (.int (-x) :: st)) : g k n θ pc lv (.int x :: st) := by
  obtain ⟨p, l, e, s, m, args, below, meth, c, D, A, τ, ρ0, n0, Q, ⟨hx, hb, hts, hown, hnm, hml⟩, ⟨hK, hA, hT⟩, rfl⟩ := C
  exact fun ρ H locs ls h1 h3 h4 h5 h6 => lv_ineg hx hb d  (kk ρ H locs ls h1 h3 h4 h5 h6)
theorem r_ishl (C : Sem cc own nm nL R g) {x y : Int32} (d : decode cc pc = .ok (.ishl, 1))  (kk : g k n θ (pc + 1) lv (.int (x <<< (y &&& 31)) :: st)) : g k n θ pc lv (.int y :: .int x :: st) := by
  obtain ⟨p, l, e, s, m, args, below, meth, c, D, A, τ, ρ0, n0, Q, ⟨hx, hb, hts, hown, hnm, hml⟩, ⟨hK, hA, hT⟩, rfl⟩ := C
  exact fun ρ H locs ls h1 h3 h4 h5 h6 => lv_ishl hx hb d  (kk ρ H locs ls h1 h3 h4 h5 h6)
theorem r_ishr (C : Sem cc own nm nL R g) {x y : Int32} (d : decode cc pc = .ok (.ishr, 1))  (kk : g k n θ (pc + 1) lv (.int (x >>> (y &&& 31)) :: st)) : g k n θ pc lv (.int y :: .int x :: st) := by
  obtain ⟨p, l, e, s, m, args, below, meth, c, D, A, τ, ρ0, n0, Q, ⟨hx, hb, hts, hown, hnm, hml⟩, ⟨hK, hA, hT⟩, rfl⟩ := C
  exact fun ρ H locs ls h1 h3 h4 h5 h6 => lv_ishr hx hb d  (kk ρ H locs ls h1 h3 h4 h5 h6)
theorem r_iushr (C : Sem cc own nm nL R g) {x y v : Int32} (d : decode cc pc = .ok (.iushr, 1)) (hv : (x.toUInt32 >>> (y.toUInt32 &&& Int32.toUInt32 31)).toInt32 = v) (kk : g k n θ (pc + 1) lv (.int v :: st)) : g k n θ pc lv (.int y :: .int x :: st) := by
  obtain ⟨p, l, e, s, m, args, below, meth, c, D, A, τ, ρ0, n0, Q, ⟨hx, hb, hts, hown, hnm, hml⟩, ⟨hK, hA, hT⟩, rfl⟩ := C
  exact fun ρ H locs ls h1 h3 h4 h5 h6 => lv_iushr hx hb d hv (kk ρ H locs ls h1 h3 h4 h5 h6)
theorem r_i2l (C : Sem cc own nm nL R g) {x : Int32} {v : Int64} (d : decode cc pc = .ok (.i2l, 1)) (hv : x.toInt64 = v) (kk : g k n θ (pc + 1) lv (.long v :: st)) : g k n θ pc lv (.int x :: st) := by
  obtain ⟨p, l, e, s, m, args, below, meth, c, D, A, τ, ρ0, n0, Q, ⟨hx, hb, hts, hown, hnm, hml⟩, ⟨hK, hA, hT⟩, rfl⟩ := C
  exact fun ρ H locs ls h1 h3 h4 h5 h6 => lv_i2l hx hb d hv (kk ρ H locs ls h1 h3 h4 h5 h6)
theorem r_l2i (C : Sem cc own nm nL R g) {x : Int64} {v : Int32} (d : decode cc pc = .ok (.l2i, 1)) (hv : x.toInt32 = v) (kk : g k n θ (pc + 1) lv (.int v :: st)) : g k n θ pc lv (.long x :: st) := by
  obtain ⟨p, l, e, s, m, args, below, meth, c, D, A, τ, ρ0, n0, Q, ⟨hx, hb, hts, hown, hnm, hml⟩, ⟨hK, hA, hT⟩, rfl⟩ := C
  exact fun ρ H locs ls h1 h3 h4 h5 h6 => lv_l2i hx hb d hv (kk ρ H locs ls h1 h3 h4 h5 h6)
theorem r_i2b (C : Sem cc own nm nL R g) {x v : Int32} (d : decode cc pc = .ok (.i2b, 1)) (hv : x.toInt8.toInt32 = v) (kk : g k n θ (pc + 1) lv (.int v :: st)) : g k n θ pc lv (.int x :: st) := by
  obtain ⟨p, l, e, s, m, args, below, meth, c, D, A, τ, ρ0, n0, Q, ⟨hx, hb, hts, hown, hnm, hml⟩, ⟨hK, hA, hT⟩, rfl⟩ := C
  exact fun ρ H locs ls h1 h3 h4 h5 h6 => lv_i2b hx hb d hv (kk ρ H locs ls h1 h3 h4 h5 h6)
theorem r_i2s (C : Sem cc own nm nL R g) {x v : Int32} (d : decode cc pc = .ok (.i2s, 1)) (hv : x.toInt16.toInt32 = v) (kk : g k n θ (pc + 1) lv (.int v :: st)) : g k n θ pc lv (.int x :: st) := by
  obtain ⟨p, l, e, s, m, args, below, meth, c, D, A, τ, ρ0, n0, Q, ⟨hx, hb, hts, hown, hnm, hml⟩, ⟨hK, hA, hT⟩, rfl⟩ := C
  exact fun ρ H locs ls h1 h3 h4 h5 h6 => lv_i2s hx hb d hv (kk ρ H locs ls h1 h3 h4 h5 h6)
theorem r_ladd (C : Sem cc own nm nL R g) {x y : Int64} (d : decode cc pc = .ok (.ladd, 1))  (kk : g k n θ (pc + 1) lv (.long (x + y) :: st)) : g k n θ pc lv (.long y :: .long x :: st) := by
  obtain ⟨p, l, e, s, m, args, below, meth, c, D, A, τ, ρ0, n0, Q, ⟨hx, hb, hts, hown, hnm, hml⟩, ⟨hK, hA, hT⟩, rfl⟩ := C
  exact fun ρ H locs ls h1 h3 h4 h5 h6 => lv_ladd hx hb d  (kk ρ H locs ls h1 h3 h4 h5 h6)
theorem r_lmul (C : Sem cc own nm nL R g) {x y : Int64} (d : decode cc pc = .ok (.lmul, 1))  (kk : g k n θ (pc + 1) lv (.long (x * y) :: st)) : g k n θ pc lv (.long y :: .long x :: st) := by
  obtain ⟨p, l, e, s, m, args, below, meth, c, D, A, τ, ρ0, n0, Q, ⟨hx, hb, hts, hown, hnm, hml⟩, ⟨hK, hA, hT⟩, rfl⟩ := C
  exact fun ρ H locs ls h1 h3 h4 h5 h6 => lv_lmul hx hb d  (kk ρ H locs ls h1 h3 h4 h5 h6)
theorem r_ldiv (C : Sem cc own nm nL R g) {x y : Int64} (d : decode cc pc = .ok (.ldiv, 1)) (hne : ¬ y = 0) (kk : g k n θ (pc + 1) lv (.long (x / y) :: st)) : g k n θ pc lv (.long y :: .long x :: st) := by
  obtain ⟨p, l, e, s, m, args, below, meth, c, D, A, τ, ρ0, n0, Q, ⟨hx, hb, hts, hown, hnm, hml⟩, ⟨hK, hA, hT⟩, rfl⟩ := C
  exact fun ρ H locs ls h1 h3 h4 h5 h6 => lv_ldiv hx hb d hne (kk ρ H locs ls h1 h3 h4 h5 h6)
theorem r_lrem (C : Sem cc own nm nL R g) {x y : Int64} (d : decode cc pc = .ok (.lrem, 1)) (hne : ¬ y = 0) (kk : g k n θ (pc + 1) lv (.long (x - x / y * y) :: st)) : g k n θ pc lv (.long y :: .long x :: st) := by
  obtain ⟨p, l, e, s, m, args, below, meth, c, D, A, τ, ρ0, n0, Q, ⟨hx, hb, hts, hown, hnm, hml⟩, ⟨hK, hA, hT⟩, rfl⟩ := C
  exact fun ρ H locs ls h1 h3 h4 h5 h6 => lv_lrem hx hb d hne (kk ρ H locs ls h1 h3 h4 h5 h6)
theorem r_lcmp (C : Sem cc own nm nL R g) {x y : Int64} (d : decode cc pc = .ok (.lcmp, 1))  (kk : g k n θ (pc + 1) lv (.int (lg_cmp x y) :: st)) : g k n θ pc lv (.long y :: .long x :: st) := by
  obtain ⟨p, l, e, s, m, args, below, meth, c, D, A, τ, ρ0, n0, Q, ⟨hx, hb, hts, hown, hnm, hml⟩, ⟨hK, hA, hT⟩, rfl⟩ := C
  exact fun ρ H locs ls h1 h3 h4 h5 h6 => W.lcmp hx hb d  (kk ρ H locs ls h1 h3 h4 h5 h6)
theorem r_lconst (C : Sem cc own nm nL R g) {z : Fin 2} {v : Int64} (d : decode cc pc = .ok (.lconst z, 1)) (hv : Int64.ofNat (z : Nat) = v) (kk : g k n θ (pc + 1) lv (.long v :: st)) : g k n θ pc lv (st) := by
  obtain ⟨p, l, e, s, m, args, below, meth, c, D, A, τ, ρ0, n0, Q, ⟨hx, hb, hts, hown, hnm, hml⟩, ⟨hK, hA, hT⟩, rfl⟩ := C
  exact fun ρ H locs ls h1 h3 h4 h5 h6 => lv_lconst hx hb d hv (kk ρ H locs ls h1 h3 h4 h5 h6)
theorem r_dup (C : Sem cc own nm nL R g) {va : Value} (d : decode cc pc = .ok (.dup, 1)) (hva : va.category = 1) (kk : g k n θ (pc + 1) lv (va :: va :: st)) : g k n θ pc lv (va :: st) := by
  obtain ⟨p, l, e, s, m, args, below, meth, c, D, A, τ, ρ0, n0, Q, ⟨hx, hb, hts, hown, hnm, hml⟩, ⟨hK, hA, hT⟩, rfl⟩ := C
  exact fun ρ H locs ls h1 h3 h4 h5 h6 => lv_dup hx hb d ((xV_cat ρ va).trans hva) (kk ρ H locs ls h1 h3 h4 h5 h6)
theorem r_dup2_11 (C : Sem cc own nm nL R g) {va vb : Value} (d : decode cc pc = .ok (.dup2, 1)) (hva : va.category = 1) (hvb : vb.category = 1) (kk : g k n θ (pc + 1) lv (va :: vb :: va :: vb :: st)) : g k n θ pc lv (va :: vb :: st) := by
  obtain ⟨p, l, e, s, m, args, below, meth, c, D, A, τ, ρ0, n0, Q, ⟨hx, hb, hts, hown, hnm, hml⟩, ⟨hK, hA, hT⟩, rfl⟩ := C
  exact fun ρ H locs ls h1 h3 h4 h5 h6 => lv_dup2_11 hx hb d ((xV_cat ρ va).trans hva) ((xV_cat ρ vb).trans hvb) (kk ρ H locs ls h1 h3 h4 h5 h6)
theorem r_pop (C : Sem cc own nm nL R g) {va : Value} (d : decode cc pc = .ok (.pop, 1)) (hva : va.category = 1) (kk : g k n θ (pc + 1) lv (st)) : g k n θ pc lv (va :: st) := by
  obtain ⟨p, l, e, s, m, args, below, meth, c, D, A, τ, ρ0, n0, Q, ⟨hx, hb, hts, hown, hnm, hml⟩, ⟨hK, hA, hT⟩, rfl⟩ := C
  exact fun ρ H locs ls h1 h3 h4 h5 h6 => lv_pop hx hb d ((xV_cat ρ va).trans hva) (kk ρ H locs ls h1 h3 h4 h5 h6)
theorem r_ldc2 (C : Sem cc own nm nL R g) {ix : Nat} {v : Int64} (d : decode cc pc = .ok (.ldc2_w ix, 3)) (hw : Cond.constantLong own ix v ∈ TT) (kk : g k n θ (pc + 3) lv (.long v :: st)) : g k n θ pc lv st := by
  obtain ⟨p, l, e, s, m, args, below, meth, c, D, A, τ, ρ0, n0, Q, ⟨hx, hb, hts, hown, hnm, hml⟩, ⟨hK, hA, hT⟩, rfl⟩ := C
  exact fun ρ H locs ls h1 h3 h4 h5 h6 => lv_ldc2 hx hb hown (hts _ hw) d (kk ρ H locs ls h1 h3 h4 h5 h6)
theorem r_if_eq (C : Sem cc own nm nL R g) {x : Int32} {off : Int} {tgt : Nat} (d : decode cc pc = .ok (.ifCond .eq off, 3)) (ht : (pc : Int) + off = (tgt : Int)) (kt : x = 0 → g k n θ tgt lv st) (kf : ¬ x = 0 → g k n θ (pc + 3) lv st) : g k n θ pc lv (.int x :: st) := by
  obtain ⟨p, l, e, s, m, args, below, meth, c, D, A, τ, ρ0, n0, Q, ⟨hx, hb, hts, hown, hnm, hml⟩, ⟨hK, hA, hT⟩, rfl⟩ := C
  exact fun ρ H locs ls h1 h3 h4 h5 h6 => lv_if_eq hx hb d ht (fun q => kt q ρ H locs ls h1 h3 h4 h5 h6) (fun q => kf q ρ H locs ls h1 h3 h4 h5 h6)
theorem r_icmp_eq (C : Sem cc own nm nL R g) {x y : Int32} {off : Int} {tgt : Nat} (d : decode cc pc = .ok (.if_icmp .eq off, 3)) (ht : (pc : Int) + off = (tgt : Int)) (kt : x = y → g k n θ tgt lv st) (kf : ¬ x = y → g k n θ (pc + 3) lv st) : g k n θ pc lv (.int y :: .int x :: st) := by
  obtain ⟨p, l, e, s, m, args, below, meth, c, D, A, τ, ρ0, n0, Q, ⟨hx, hb, hts, hown, hnm, hml⟩, ⟨hK, hA, hT⟩, rfl⟩ := C
  exact fun ρ H locs ls h1 h3 h4 h5 h6 => lv_icmp_eq hx hb d ht (fun q => kt q ρ H locs ls h1 h3 h4 h5 h6) (fun q => kf q ρ H locs ls h1 h3 h4 h5 h6)
theorem r_if_ne (C : Sem cc own nm nL R g) {x : Int32} {off : Int} {tgt : Nat} (d : decode cc pc = .ok (.ifCond .ne off, 3)) (ht : (pc : Int) + off = (tgt : Int)) (kt : ¬ x = 0 → g k n θ tgt lv st) (kf : x = 0 → g k n θ (pc + 3) lv st) : g k n θ pc lv (.int x :: st) := by
  obtain ⟨p, l, e, s, m, args, below, meth, c, D, A, τ, ρ0, n0, Q, ⟨hx, hb, hts, hown, hnm, hml⟩, ⟨hK, hA, hT⟩, rfl⟩ := C
  exact fun ρ H locs ls h1 h3 h4 h5 h6 => lv_if_ne hx hb d ht (fun q => kt q ρ H locs ls h1 h3 h4 h5 h6) (fun q => kf q ρ H locs ls h1 h3 h4 h5 h6)
theorem r_icmp_ne (C : Sem cc own nm nL R g) {x y : Int32} {off : Int} {tgt : Nat} (d : decode cc pc = .ok (.if_icmp .ne off, 3)) (ht : (pc : Int) + off = (tgt : Int)) (kt : ¬ x = y → g k n θ tgt lv st) (kf : x = y → g k n θ (pc + 3) lv st) : g k n θ pc lv (.int y :: .int x :: st) := by
  obtain ⟨p, l, e, s, m, args, below, meth, c, D, A, τ, ρ0, n0, Q, ⟨hx, hb, hts, hown, hnm, hml⟩, ⟨hK, hA, hT⟩, rfl⟩ := C
  exact fun ρ H locs ls h1 h3 h4 h5 h6 => lv_icmp_ne hx hb d ht (fun q => kt q ρ H locs ls h1 h3 h4 h5 h6) (fun q => kf q ρ H locs ls h1 h3 h4 h5 h6)
theorem r_if_lt (C : Sem cc own nm nL R g) {x : Int32} {off : Int} {tgt : Nat} (d : decode cc pc = .ok (.ifCond .lt off, 3)) (ht : (pc : Int) + off = (tgt : Int)) (kt : x < 0 → g k n θ tgt lv st) (kf : ¬ x < 0 → g k n θ (pc + 3) lv st) : g k n θ pc lv (.int x :: st) := by
  obtain ⟨p, l, e, s, m, args, below, meth, c, D, A, τ, ρ0, n0, Q, ⟨hx, hb, hts, hown, hnm, hml⟩, ⟨hK, hA, hT⟩, rfl⟩ := C
  exact fun ρ H locs ls h1 h3 h4 h5 h6 => lv_if_lt hx hb d ht (fun q => kt q ρ H locs ls h1 h3 h4 h5 h6) (fun q => kf q ρ H locs ls h1 h3 h4 h5 h6)
theorem r_icmp_lt (C : Sem cc own nm nL R g) {x y : Int32} {off : Int} {tgt : Nat} (d : decode cc pc = .ok (.if_icmp .lt off, 3)) (ht : (pc : Int) + off = (tgt : Int)) (kt : x < y → g k n θ tgt lv st) (kf : ¬ x < y → g k n θ (pc + 3) lv st) : g k n θ pc lv (.int y :: .int x :: st) := by
  obtain ⟨p, l, e, s, m, args, below, meth, c, D, A, τ, ρ0, n0, Q, ⟨hx, hb, hts, hown, hnm, hml⟩, ⟨hK, hA, hT⟩, rfl⟩ := C
  exact fun ρ H locs ls h1 h3 h4 h5 h6 => lv_icmp_lt hx hb d ht (fun q => kt q ρ H locs ls h1 h3 h4 h5 h6) (fun q => kf q ρ H locs ls h1 h3 h4 h5 h6)
theorem r_if_ge (C : Sem cc own nm nL R g) {x : Int32} {off : Int} {tgt : Nat} (d : decode cc pc = .ok (.ifCond .ge off, 3)) (ht : (pc : Int) + off = (tgt : Int)) (kt : 0 ≤ x → g k n θ tgt lv st) (kf : ¬ 0 ≤ x → g k n θ (pc + 3) lv st) : g k n θ pc lv (.int x :: st) := by
  obtain ⟨p, l, e, s, m, args, below, meth, c, D, A, τ, ρ0, n0, Q, ⟨hx, hb, hts, hown, hnm, hml⟩, ⟨hK, hA, hT⟩, rfl⟩ := C
  exact fun ρ H locs ls h1 h3 h4 h5 h6 => lv_if_ge hx hb d ht (fun q => kt q ρ H locs ls h1 h3 h4 h5 h6) (fun q => kf q ρ H locs ls h1 h3 h4 h5 h6)
theorem r_icmp_ge (C : Sem cc own nm nL R g) {x y : Int32} {off : Int} {tgt : Nat} (d : decode cc pc = .ok (.if_icmp .ge off, 3)) (ht : (pc : Int) + off = (tgt : Int)) (kt : y ≤ x → g k n θ tgt lv st) (kf : ¬ y ≤ x → g k n θ (pc + 3) lv st) : g k n θ pc lv (.int y :: .int x :: st) := by
  obtain ⟨p, l, e, s, m, args, below, meth, c, D, A, τ, ρ0, n0, Q, ⟨hx, hb, hts, hown, hnm, hml⟩, ⟨hK, hA, hT⟩, rfl⟩ := C
  exact fun ρ H locs ls h1 h3 h4 h5 h6 => lv_icmp_ge hx hb d ht (fun q => kt q ρ H locs ls h1 h3 h4 h5 h6) (fun q => kf q ρ H locs ls h1 h3 h4 h5 h6)
theorem r_if_gt (C : Sem cc own nm nL R g) {x : Int32} {off : Int} {tgt : Nat} (d : decode cc pc = .ok (.ifCond .gt off, 3)) (ht : (pc : Int) + off = (tgt : Int)) (kt : 0 < x → g k n θ tgt lv st) (kf : ¬ 0 < x → g k n θ (pc + 3) lv st) : g k n θ pc lv (.int x :: st) := by
  obtain ⟨p, l, e, s, m, args, below, meth, c, D, A, τ, ρ0, n0, Q, ⟨hx, hb, hts, hown, hnm, hml⟩, ⟨hK, hA, hT⟩, rfl⟩ := C
  exact fun ρ H locs ls h1 h3 h4 h5 h6 => lv_if_gt hx hb d ht (fun q => kt q ρ H locs ls h1 h3 h4 h5 h6) (fun q => kf q ρ H locs ls h1 h3 h4 h5 h6)
theorem r_icmp_gt (C : Sem cc own nm nL R g) {x y : Int32} {off : Int} {tgt : Nat} (d : decode cc pc = .ok (.if_icmp .gt off, 3)) (ht : (pc : Int) + off = (tgt : Int)) (kt : y < x → g k n θ tgt lv st) (kf : ¬ y < x → g k n θ (pc + 3) lv st) : g k n θ pc lv (.int y :: .int x :: st) := by
  obtain ⟨p, l, e, s, m, args, below, meth, c, D, A, τ, ρ0, n0, Q, ⟨hx, hb, hts, hown, hnm, hml⟩, ⟨hK, hA, hT⟩, rfl⟩ := C
  exact fun ρ H locs ls h1 h3 h4 h5 h6 => lv_icmp_gt hx hb d ht (fun q => kt q ρ H locs ls h1 h3 h4 h5 h6) (fun q => kf q ρ H locs ls h1 h3 h4 h5 h6)
theorem r_if_le (C : Sem cc own nm nL R g) {x : Int32} {off : Int} {tgt : Nat} (d : decode cc pc = .ok (.ifCond .le off, 3)) (ht : (pc : Int) + off = (tgt : Int)) (kt : x ≤ 0 → g k n θ tgt lv st) (kf : ¬ x ≤ 0 → g k n θ (pc + 3) lv st) : g k n θ pc lv (.int x :: st) := by
  obtain ⟨p, l, e, s, m, args, below, meth, c, D, A, τ, ρ0, n0, Q, ⟨hx, hb, hts, hown, hnm, hml⟩, ⟨hK, hA, hT⟩, rfl⟩ := C
  exact fun ρ H locs ls h1 h3 h4 h5 h6 => lv_if_le hx hb d ht (fun q => kt q ρ H locs ls h1 h3 h4 h5 h6) (fun q => kf q ρ H locs ls h1 h3 h4 h5 h6)
theorem r_icmp_le (C : Sem cc own nm nL R g) {x y : Int32} {off : Int} {tgt : Nat} (d : decode cc pc = .ok (.if_icmp .le off, 3)) (ht : (pc : Int) + off = (tgt : Int)) (kt : x ≤ y → g k n θ tgt lv st) (kf : ¬ x ≤ y → g k n θ (pc + 3) lv st) : g k n θ pc lv (.int y :: .int x :: st) := by
  obtain ⟨p, l, e, s, m, args, below, meth, c, D, A, τ, ρ0, n0, Q, ⟨hx, hb, hts, hown, hnm, hml⟩, ⟨hK, hA, hT⟩, rfl⟩ := C
  exact fun ρ H locs ls h1 h3 h4 h5 h6 => lv_icmp_le hx hb d ht (fun q => kt q ρ H locs ls h1 h3 h4 h5 h6) (fun q => kf q ρ H locs ls h1 h3 h4 h5 h6)
theorem r_goto (C : Sem cc own nm nL R g) {off : Int} {tgt : Nat} (d : decode cc pc = .ok (.goto off, 3)) (ht : (pc : Int) + off = (tgt : Int)) (kk : g k n θ tgt lv st) : g k n θ pc lv st := by
  obtain ⟨p, l, e, s, m, args, below, meth, c, D, A, τ, ρ0, n0, Q, ⟨hx, hb, hts, hown, hnm, hml⟩, ⟨hK, hA, hT⟩, rfl⟩ := C
  exact fun ρ H locs ls h1 h3 h4 h5 h6 => lv_goto hx hb d ht (kk ρ H locs ls h1 h3 h4 h5 h6)
theorem r_iinc (C : Sem cc own nm nL R g) {i : Nat} {z : Int} {x v : Int32} {lv' : List (Option Value)} (d : decode cc pc = .ok (.iinc i z, 3)) (hl0 : lv[i]? = some (some (.int x))) (hv : x + Int32.ofInt z = v) (hf : xN lv i) (hl : lv.set i (some (.int v)) = lv') (kk : g k n θ (pc + 3) lv' st) : g k n θ pc lv st := by
  obtain ⟨p, l, e, s, m, args, below, meth, c, D, A, τ, ρ0, n0, Q, ⟨hx, hb, hts, hown, hnm, hml⟩, ⟨hK, hA, hT⟩, rfl⟩ := C
  subst hl
  intro ρ H locs ls h1 h3 h4 h5 h6
  have hn : i < lv.length := (List.getElem?_eq_some_iff.mp hl0).1
  obtain ⟨q, hq⟩ := List.getElem?_of_mem (xLl_in (ρ := ρ) (lv := lv) (q := (i, .int x)) |>.mpr ⟨.int x, hl0, rfl⟩)
  exact lv_iinc hx hb d (xL_has h6) hq hv hn rfl (fun ls' h => kk ρ H locs ls' h1 h3 h4 h5 (xL_set1 (v := .int v) hn hf h))
theorem r_tableOut (C : Sem cc own nm nL R g) {dflt lo hi : Int} {offs : Array Int} {len : Nat} {x : Int32} {tgt : Nat} (d : decode cc pc = .ok (.tableswitch dflt lo hi offs, len)) (h : x.toInt < lo ∨ hi < x.toInt) (ht : (pc : Int) + dflt = (tgt : Int)) (kk : g k n θ tgt lv st) : g k n θ pc lv (.int x :: st) := by
  obtain ⟨p, l, e, s, m, args, below, meth, c, D, A, τ, ρ0, n0, Q, ⟨hx, hb, hts, hown, hnm, hml⟩, ⟨hK, hA, hT⟩, rfl⟩ := C
  exact fun ρ H locs ls h1 h3 h4 h5 h6 => lv_tableOut hx hb d h ht (kk ρ H locs ls h1 h3 h4 h5 h6)
theorem r_tableIn (C : Sem cc own nm nL R g) {dflt lo hi : Int} {offs : Array Int} {len : Nat} {x : Int32} {off : Int} {tgt : Nat} (d : decode cc pc = .ok (.tableswitch dflt lo hi offs, len)) (q1 : ¬ x.toInt < lo) (q2 : ¬ hi < x.toInt) (ho : offs[(x.toInt - lo).toNat]? = some off) (ht : (pc : Int) + off = (tgt : Int)) (kk : g k n θ tgt lv st) : g k n θ pc lv (.int x :: st) := by
  obtain ⟨p, l, e, s, m, args, below, meth, c, D, A, τ, ρ0, n0, Q, ⟨hx, hb, hts, hown, hnm, hml⟩, ⟨hK, hA, hT⟩, rfl⟩ := C
  exact fun ρ H locs ls h1 h3 h4 h5 h6 => lv_tableIn hx hb d q1 q2 ho ht (kk ρ H locs ls h1 h3 h4 h5 h6)
theorem r_lookup (C : Sem cc own nm nL R g) {dflt : Int} {ps : Array (Int × Int)} {len : Nat} {x : Int32} {off : Int} {tgt : Nat} (d : decode cc pc = .ok (.lookupswitch dflt ps, len)) (hp : (ps.toList.zip (ps.toList.drop 1)).all (fun (a, next) => a.1 < next.1) = true) (ho : Op.lookupswitch.offset ps.toList dflt x.toInt = off) (ht : (pc : Int) + off = (tgt : Int)) (kk : g k n θ tgt lv st) : g k n θ pc lv (.int x :: st) := by
  obtain ⟨p, l, e, s, m, args, below, meth, c, D, A, τ, ρ0, n0, Q, ⟨hx, hb, hts, hown, hnm, hml⟩, ⟨hK, hA, hT⟩, rfl⟩ := C
  exact fun ρ H locs ls h1 h3 h4 h5 h6 => lv_lookup hx hb d hp ho ht (kk ρ H locs ls h1 h3 h4 h5 h6)
/-- a field of the class number ci, by the pool's place ix of the class own -/
def xF (own : String) (ix ci fk : Nat) : Prop := ∃ (C : String) (T : u_T) (N : Nat), vwCl[ci]? = some (C, T, N) ∧ fk < N ∧ Cond.fieldLink own ix (T fk).1 (T fk).2.1 (T fk).2.2.1 ∈ TT ∧ (∀ w ∈ u_ws C T N, w ∈ TT) ∧ (∃ ty : Nat → FieldType, ∀ j, j < N → parseFieldDescriptor (T j).2.2.1 = some (ty j)) ∧ (∀ a, a < N → ∀ b, b < N → a ≠ b → (T a).2.1 ≠ (T b).2.1)
def xFt (ci fk : Nat) (fin : Bool) (ty : FieldType) : Prop := match vwCl[ci]? with
  | some q => (q.2.1 fk).2.2.2 = fin ∧ parseFieldDescriptor (q.2.1 fk).2.2.1 = some ty ∧ (fin = true → (q.2.1 fk).1 = q.1)
  | none => False
theorem r_getfield (C : Sem cc own nm nL R g) {ix a ci fk : Nat} {fs : List Value} {v : Value} (F : xF own ix ci fk) (d : decode cc pc = .ok (.getfield ix, 3)) (hθ : θ[a]? = some (.inr (ci, fs))) (hv : fs[fk]? = some v) (kk : g k n θ (pc + 3) lv (v :: st)) : g k n θ pc lv (.ref a :: st) := by
  obtain ⟨p, l, e, s, m, args, below, meth, c, D, A, τ, ρ0, n0, Q, ⟨hx, hb, hts, hown, hnm, hml⟩, ⟨hK, hA, hT⟩, rfl⟩ := C
  obtain ⟨cn, T, N, a1, a2, a3, a4, a5, a6⟩ := F
  intro ρ H locs ls h1 h3 h4 h5 h6
  exact va_get (D := D) (cl := vwCl) hx hb hts a4 hown hK h3 a (xW_at hθ) a1 fk a2 (hts _ a3) (fun _ h9 => h9) (by rw [List.getElem?_map, hv]; rfl) d (kk ρ H locs ls h1 h3 h4 h5 h6)
theorem r_putfield (C : Sem cc own nm nL R g) {ix a ci fk : Nat} {fs : List Value} {v : Value} {ty : FieldType} {θ' : List xE} (F : xF own ix ci fk) (Ft : xFt ci fk false ty) (d : decode cc pc = .ok (.putfield ix, 3)) (hθ : θ[a]? = some (.inr (ci, fs))) (hv : fk < fs.length) (hn : ∀ ρ, narrow ty (xV ρ v) = xV ρ v ∧ fits ty (xV ρ v) = true) (hs : θ.set a (.inr (ci, fs.set fk v)) = θ') (kk : g k n θ' (pc + 3) lv st) : g k n θ pc lv (v :: .ref a :: st) := by
  obtain ⟨p, l, e, s, m, args, below, meth, c, D, A, τ, ρ0, n0, Q, ⟨hx, hb, hts, hown, hnm, hml⟩, ⟨hK, hA, hT⟩, rfl⟩ := C
  obtain ⟨cn, T, N, a1, a2, a3, a4, ⟨tys, a5⟩, a6⟩ := F
  simp only [xFt, a1] at Ft
  intro ρ H locs ls h1 h3 h4 h5 h6
  subst hs
  refine va_put (D := D) (cl := vwCl) hx hb hts a4 tys a5 a6 hown hK h3 h4 h5 a (xW_at hθ) a1 fk a2 (hts _ a3) (fun _ h9 => h9) Ft.1 Ft.2.1 (hn ρ).1 (hn ρ).2 (by rw [List.length_map]; exact hv) d (fun H1 locs1 w1 w2 w3 => ?_)
  have e1 : (xW ρ τ θ).set a (ρ a, .inr (ci, (fs.map (xV ρ)).set fk (xV ρ v))) = xW ρ τ (θ.set a (.inr (ci, fs.set fk v))) := by
    rw [← xW_set]
    simp only [xC, List.map_set]
  rw [e1] at w1 w2
  exact kk ρ H1 locs1 ls (by rw [List.length_set]; exact h1) w1 w2 w3 h6
theorem r_iaload (C : Sem cc own nm nL R g) {a N : Nat} {f : Nat → Int32} {x v : Int32} (j : Nat) (d : decode cc pc = .ok (.iaload, 1)) (hθ : θ[a]? = some (.inl (0, N, .inl f))) (hi : x = nI j) (hj : j < N) (hv : f j = v) (kk : g k n θ (pc + 1) lv (.int v :: st)) (hN : N < 2 ^ 31 := by decide) : g k n θ pc lv (.int x :: .ref a :: st) := by
  obtain ⟨p, l, e, s, m, args, below, meth, c, D, A, τ, ρ0, n0, Q, ⟨hx, hb, hts, hown, hnm, hml⟩, ⟨hK, hA, hT⟩, rfl⟩ := C
  intro ρ H locs ls h1 h3 h4 h5 h6
  subst hi
  subst hv
  have e1 : (nI j).toNatClampNeg = j := nI_clamp (Nat.lt_trans hj hN)
  refine va_iald (D := D) (cl := vwCl) (tys := xT τ) hx hb hK h3 a 0 (cA := τ 0) (n := N) (f := f) (xW_at hθ) rfl (vp_in_nI hj hN) d ?_
  rw [e1]
  exact kk ρ H locs ls h1 h3 h4 h5 h6
theorem r_iastore (C : Sem cc own nm nL R g) {a N : Nat} {f : Nat → Int32} {x : Int32} {y : Int32} {θ' : List xE} (j : Nat) (d : decode cc pc = .ok (.iastore, 1)) (hθ : θ[a]? = some (.inl (0, N, .inl f))) (hi : x = nI j) (hj : j < N)  (hs : θ.set a (.inl (0, N, .inl (upd f j y))) = θ') (kk : g k n θ' (pc + 1) lv st) (hN : N < 2 ^ 31 := by decide) : g k n θ pc lv (.int y :: .int x :: .ref a :: st) := by
  obtain ⟨p, l, e, s, m, args, below, meth, c, D, A, τ, ρ0, n0, Q, ⟨hx, hb, hts, hown, hnm, hml⟩, ⟨hK, hA, hT⟩, rfl⟩ := C
  intro ρ H locs ls h1 h3 h4 h5 h6
  subst hi
  subst hs
  have e1 : (nI j).toNatClampNeg = j := nI_clamp (Nat.lt_trans hj hN)
  refine va_iast (D := D) (cl := vwCl) (tys := xT τ) hx hb hK h3 h4 h5 a 0 (cA := τ 0) (n := N) (f := f) (xW_at hθ) rfl (vp_in_nI hj hN) d (fun H1 locs1 w1 w2 w3 => ?_)
  rw [e1] at w1 w2
  exact kk ρ H1 locs1 ls (by rw [List.length_set]; exact h1) (xW_set (ρ := ρ) (τ := τ) (θ := θ) (i := a) ▸ w1) (xW_set (ρ := ρ) (τ := τ) (θ := θ) (i := a) ▸ w2) w3 h6
theorem r_baload (C : Sem cc own nm nL R g) {a N : Nat} {f : Nat → Int32} {x v : Int32} (j : Nat) (d : decode cc pc = .ok (.baload, 1)) (hθ : θ[a]? = some (.inl (1, N, .inl f))) (hi : x = nI j) (hj : j < N) (hv : f j = v) (kk : g k n θ (pc + 1) lv (.int v :: st)) (hN : N < 2 ^ 31 := by decide) : g k n θ pc lv (.int x :: .ref a :: st) := by
  obtain ⟨p, l, e, s, m, args, below, meth, c, D, A, τ, ρ0, n0, Q, ⟨hx, hb, hts, hown, hnm, hml⟩, ⟨hK, hA, hT⟩, rfl⟩ := C
  intro ρ H locs ls h1 h3 h4 h5 h6
  subst hi
  subst hv
  have e1 : (nI j).toNatClampNeg = j := nI_clamp (Nat.lt_trans hj hN)
  refine va_zald (D := D) (cl := vwCl) (tys := xT τ) hx hb hK h3 a 1 (cA := τ 1) (n := N) (f := f) (xW_at hθ) rfl (vp_in_nI hj hN) d ?_
  rw [e1]
  exact kk ρ H locs ls h1 h3 h4 h5 h6
theorem r_bastore (C : Sem cc own nm nL R g) {a N : Nat} {f : Nat → Int32} {x : Int32} {y0 y : Int32} {θ' : List xE} (j : Nat) (d : decode cc pc = .ok (.bastore, 1)) (hθ : θ[a]? = some (.inl (1, N, .inl f))) (hi : x = nI j) (hj : j < N) (hy : vp_nar .boolean y0 = y) (hs : θ.set a (.inl (1, N, .inl (upd f j y))) = θ') (kk : g k n θ' (pc + 1) lv st) (hN : N < 2 ^ 31 := by decide) : g k n θ pc lv (.int y0 :: .int x :: .ref a :: st) := by
  obtain ⟨p, l, e, s, m, args, below, meth, c, D, A, τ, ρ0, n0, Q, ⟨hx, hb, hts, hown, hnm, hml⟩, ⟨hK, hA, hT⟩, rfl⟩ := C
  intro ρ H locs ls h1 h3 h4 h5 h6
  subst hi
  subst hs
  subst hy
  have e1 : (nI j).toNatClampNeg = j := nI_clamp (Nat.lt_trans hj hN)
  refine va_zast (D := D) (cl := vwCl) (tys := xT τ) hx hb hK h3 h4 h5 a 1 (cA := τ 1) (n := N) (f := f) (xW_at hθ) rfl (vp_in_nI hj hN) d (fun H1 locs1 w1 w2 w3 => ?_)
  rw [e1] at w1 w2
  exact kk ρ H1 locs1 ls (by rw [List.length_set]; exact h1) (xW_set (ρ := ρ) (τ := τ) (θ := θ) (i := a) ▸ w1) (xW_set (ρ := ρ) (τ := τ) (θ := θ) (i := a) ▸ w2) w3 h6
theorem r_aaload (C : Sem cc own nm nL R g) {a N t b : Nat} {f : Nat → Option Nat} {x : Int32} {cn : String} (j : Nat) (d : decode cc pc = .ok (.aaload, 1)) (hθ : θ[a]? = some (.inl (t, N, .inr (.inr (.inr (.inr f)))))) (ht : ∀ τ : Nat → ClassId, (xT τ)[t]? = some (τ t, .object cn)) (hi : x = nI j) (hj : j < N) (hv : f j = some b) (kk : g k n θ (pc + 1) lv (.ref b :: st)) (hN : N < 2 ^ 31 := by decide) : g k n θ pc lv (.int x :: .ref a :: st) := by
  obtain ⟨p, l, e, s, m, args, below, meth, c, D, A, τ, ρ0, n0, Q, ⟨hx, hb, hts, hown, hnm, hml⟩, ⟨hK, hA, hT⟩, rfl⟩ := C
  intro ρ H locs ls h1 h3 h4 h5 h6
  subst hi
  have e1 : (nI j).toNatClampNeg = j := nI_clamp (Nat.lt_trans hj hN)
  refine va_aldq (D := D) (cl := vwCl) (tys := xT τ) hx hb hK h3 a t (cA := τ t) (C := cn) (n := N) (f := fun q => (f q).map ρ) (xW_at hθ) (ht τ) (vp_in_nI hj hN) d ?_
  rw [e1, hv]
  exact kk ρ H locs ls h1 h3 h4 h5 h6
end FW
end
section
/-! ===== calls ===== -/
def xEr (σ : Nat → Nat) (x : xE) : xE := match x with
  | .inl a => .inl (a.1, xA σ a.2)
  | .inr o => .inr (o.1, o.2.map (xV σ))
theorem xV_xV (ρ σ : Nat → Nat) (v : Value) : xV ρ (xV σ v) = xV (fun i => ρ (σ i)) v := by cases v <;> rfl
theorem xA_xA (ρ σ : Nat → Nat) (a : vp_A) : xA ρ (xA σ a) = xA (fun i => ρ (σ i)) a := by
  obtain ⟨n, a⟩ := a
  rcases a with a | a | a | a | a <;> simp [xA, Function.comp_def]
theorem xC_xEr (ρ σ : Nat → Nat) (τ : Nat → ClassId) (x : xE) : xC ρ τ (xEr σ x) = xC (fun i => ρ (σ i)) τ x := by
  rcases x with a | o
  · simp only [xEr, xC, xA_xA]
  · simp only [xEr, xC, List.map_map]
    congr 2
    apply List.map_congr_left
    intro v _
    exact xV_xV ρ σ v
/-- the caller's place of the callee's place i -/
def xS (is : List Nat) (base : Nat) : Nat → Nat := fun i => match is[i]? with
  | some a => a
  | none => base + (i - is.length)
def xSet : List xE → List Nat → List xE → List xE
  | θ, i :: is, x :: xs => xSet (θ.set i x) is xs
  | θ, _, _ => θ
theorem xSet_len : ∀ (is : List Nat) (θ xs : List xE), (xSet θ is xs).length = θ.length
  | [], θ, xs => by cases xs <;> rfl
  | i :: is, θ, [] => rfl
  | i :: is, θ, x :: xs => by
    show (xSet (θ.set i x) is xs).length = _
    rw [xSet_len is, List.length_set]
theorem xSet_out : ∀ (is : List Nat) (θ xs : List xE) (i : Nat), i ∉ is → (xSet θ is xs)[i]? = θ[i]?
  | [], θ, xs, i, _ => by cases xs <;> rfl
  | a :: is, θ, [], i, _ => rfl
  | a :: is, θ, x :: xs, i, h => by
    show (xSet (θ.set a x) is xs)[i]? = _
    rw [xSet_out is _ _ _ (fun q => h (List.mem_cons_of_mem _ q)), List.getElem?_set_ne (fun q => h (by rw [q]; exact List.mem_cons_self))]
theorem xSet_in : ∀ (is : List Nat) (θ xs : List xE) (j i : Nat) (x : xE), is.Nodup → is[j]? = some i → xs[j]? = some x → i < θ.length → (xSet θ is xs)[i]? = some x
  | [], θ, xs, j, i, x, _, h, _, _ => by simp at h
  | a :: is, θ, [], j, i, x, _, _, h, _ => by simp at h
  | a :: is, θ, y :: xs, 0, i, x, hn, h, hx, hi => by
    simp only [List.getElem?_cons_zero, Option.some.injEq] at h hx
    subst h; subst hx
    show (xSet (θ.set a y) is xs)[a]? = _
    rw [xSet_out is _ _ _ (List.nodup_cons.mp hn).1, List.getElem?_set_self hi]
  | a :: is, θ, y :: xs, j + 1, i, x, hn, h, hx, hi => by
    simp only [List.getElem?_cons_succ] at h hx
    show (xSet (θ.set a y) is xs)[i]? = _
    exact xSet_in is _ _ j i x (List.nodup_cons.mp hn).2 h hx (by rw [List.length_set]; exact hi)
theorem xD_iff {A : Nat → Prop} {ρ : Nat → Nat} {τ : Nat → ClassId} {θ : List xE} : va_D A (xW ρ τ θ) ↔ (∀ i j, i < θ.length → j < θ.length → ρ i = ρ j → i = j) ∧ ∀ i, i < θ.length → A (ρ i) := by
  have hg : ∀ i, i < θ.length → ∃ x, (xW ρ τ θ)[i]? = some (ρ i, x) := fun i hi => ⟨_, xW_at (List.getElem?_eq_getElem hi)⟩
  have hb : ∀ (i : Nat) (q : Nat × va_E), (xW ρ τ θ)[i]? = some q → i < θ.length ∧ q.1 = ρ i := by
    intro i q hq
    rw [xW_get] at hq
    cases h : θ[i]? with
    | none => rw [h] at hq; cases hq
    | some x =>
      rw [h] at hq
      cases hq
      exact ⟨(List.getElem?_eq_some_iff.mp h).1, rfl⟩
  constructor
  · rintro ⟨h1, h2⟩
    refine ⟨fun i j hi hj e => ?_, fun i hi => ?_⟩
    · obtain ⟨x, hx⟩ := hg i hi
      obtain ⟨y, hy⟩ := hg j hj
      exact h1 i j _ _ hx hy e
    · obtain ⟨x, hx⟩ := hg i hi
      exact h2 i _ hx
  · rintro ⟨h1, h2⟩
    refine ⟨fun i j p q hp hq e => ?_, fun i q hq => ?_⟩
    · obtain ⟨a1, a2⟩ := hb i p hp
      obtain ⟨b1, b2⟩ := hb j q hq
      exact h1 i j a1 b1 (by rw [← a2, ← b2]; exact e)
    · obtain ⟨a1, a2⟩ := hb i q hq
      rw [a2]
      exact h2 i a1
def xPre (D : va_G) (τ : Nat → ClassId) (ρ : Nat → Nat) (θ : List xE) (sz : Nat) (U : State) : Prop := U.heap.size = sz ∧ va_P D vwCl (xW ρ τ θ) U.heap ∧ va_K D vwCl (xT τ) U ∧ va_D (fun _ => True) (xW ρ τ θ) ∧ (xTab (va_A (xW ρ τ θ) sz) U ∧ xNest U)
def xPost (D : va_G) (τ : Nat → ClassId) (ρ : Nat → Nat) (θ : List xE) (sz : Nat) (fin : Option Value → List xE → Prop) : Array Value → State → Outcome → State → Prop := fun _ st oc t => (∃ (r : Option Value) (θ' : List xE) (nw : List Nat), oc = .returned (r.map (xV (xX ρ θ.length nw))) ∧ θ'.length = θ.length + nw.length ∧ fin r θ' ∧ va_P D vwCl (xW (xX ρ θ.length nw) τ θ') t.heap ∧ va_D (va_A (xW ρ τ θ) sz) (xW (xX ρ θ.length nw) τ θ')) ∧ va_F (va_A (xW ρ τ θ) sz) st t
/-- a method's contract: from the world θ, with the arguments av, it returns, and fin holds of its answer and the world behind it -/
def MetA (y : MethodName) (ws : List Cond) (rm : Room) (av : List Value) (θ : List xE) (fin : Option Value → List xE → Prop) (mc ms : Nat) : Prop :=
  ∀ (l : Launch) (D : va_G) (τ : Nat → ClassId) (ρ : Nat → Nat) (sz : Nat), Met l y ws rm (va_Pc (av.map (xV ρ)) (xPre D τ ρ θ sz)) (xPost D τ ρ θ sz fin) mc ms (va_A (xW ρ τ θ) sz)
/-- the facts of the tables that a call of the method y needs -/
def xM (C : String) (y : MethodName) (b : ByteArray) (maxL : Nat) (ret : Option FieldType) (na : Nat) : Prop := Cond.code y b maxL ret ∈ TT ∧ Cond.initialized C ∈ TT ∧ (y.cls = C ∧ y.cls ≠ "java/lang/invoke/MethodHandle" ∧ y.cls ≠ "java/lang/invoke/VarHandle" ∧ (parseMethodDescriptor y.desc).map (fun d => d.parameters.length) = some na)
def xMV (C : String) (y : MethodName) (b : ByteArray) (maxL : Nat) (ret : Option FieldType) (na : Nat) : Prop := xM C y b maxL ret na ∧ Cond.instanceMethod y ∈ TT ∧ Cond.selects C y y ∈ TT
def xMS (C : String) (y : MethodName) (b : ByteArray) (maxL : Nat) (ret : Option FieldType) (na : Nat) : Prop := xM C y b maxL ret na ∧ Cond.static y ∈ TT
theorem xGV {own C : String} {ix : Nat} {y : MethodName} {b : ByteArray} {maxL na : Nat} {ret : Option FieldType} (hm : xMV C y b maxL ret na) (hl : Cond.methodLink own ix y ∈ TT) : GoodIn TT (wsV own ix C y (.code y b maxL ret :: TT)) := by
  intro w hw
  have hT : w ∈ TT := by
    unfold wsV at hw
    rcases List.mem_append.mp hw with h | h
    · simp only [List.mem_cons, List.not_mem_nil, or_false] at h
      rcases h with rfl | rfl | rfl | rfl
      · exact hl
      · exact hm.2.1
      · exact hm.2.2
      · exact hm.1.2.1
    · rcases List.mem_cons.mp h with rfl | h
      · exact hm.1.1
      · exact h
  exact ⟨hT, good_of_word (TT_good hT)⟩
theorem xGS {own C : String} {ix : Nat} {y : MethodName} {b : ByteArray} {maxL na : Nat} {ret : Option FieldType} (hm : xMS C y b maxL ret na) (hl : Cond.methodLink own ix y ∈ TT) : GoodIn TT (va_wsS own ix y (.code y b maxL ret :: TT)) := by
  intro w hw
  have hT : w ∈ TT := by
    unfold va_wsS at hw
    rcases List.mem_append.mp hw with h | h
    · simp only [List.mem_cons, List.not_mem_nil, or_false] at h
      rcases h with rfl | rfl | rfl
      · exact hl
      · exact hm.2
      · rw [hm.1.2.2.1]; exact hm.1.2.1
    · rcases List.mem_cons.mp h with rfl | h
      · exact hm.1.1
      · exact h
  exact ⟨hT, good_of_word (TT_good hT)⟩
end
section
theorem xX_app (ρ : Nat → Nat) (n : Nat) (a b : List Nat) : xX (xX ρ n a) (n + a.length) b = xX ρ n (a ++ b) := by
  funext i
  unfold xX
  by_cases h1 : i < n
  · rw [if_pos (by omega), if_pos h1, if_pos h1]
  · by_cases h2 : i < n + a.length
    · rw [if_pos h2, if_neg h1, if_neg h1, List.getElem?_append_left (by omega)]
    · rw [if_neg h2, if_neg h1, if_neg h1, List.getElem?_append_right (by omega), show i - n - a.length = i - (n + a.length) by omega]
      have h3 : a[i - n]? = none := List.getElem?_eq_none (by omega)
      rw [h3]
theorem xX_lt {ρ : Nat → Nat} {n i : Nat} {a : List Nat} (h : i < n) : xX ρ n a i = ρ i := if_pos h
theorem xX_ge {ρ : Nat → Nat} {n i : Nat} {a : List Nat} (h : n + a.length ≤ i) : xX ρ n a i = ρ i := by
  unfold xX
  rw [if_neg (by omega), List.getElem?_eq_none (by omega)]
theorem xIs {is : List Nat} {θ θc : List xE} {σ : Nat → Nat} (hθ : is.map (fun i => θ[i]?) = θc.map (fun x => some (xEr σ x))) : is.length = θc.length ∧ ∀ (j i : Nat), is[j]? = some i → ∃ x, θc[j]? = some x ∧ θ[i]? = some (xEr σ x) := by
  have h0 := congrArg List.length hθ
  rw [List.length_map, List.length_map] at h0
  refine ⟨h0, fun j i hj => ?_⟩
  have h1 := congrArg (fun l => l[j]?) hθ
  simp only [List.getElem?_map, hj, Option.map_some] at h1
  cases hc : θc[j]? with
  | none => rw [hc] at h1; cases h1
  | some x => rw [hc] at h1; exact ⟨x, rfl, Option.some.inj h1⟩
theorem xS_lt {is : List Nat} {b j i : Nat} (h : is[j]? = some i) : xS is b j = i := by
  unfold xS
  rw [h]
theorem xS_ge {is : List Nat} {b j : Nat} (h : is.length ≤ j) : xS is b j = b + (j - is.length) := by
  unfold xS
  rw [List.getElem?_eq_none h]
section CL
variable {s : State} {D : va_G} {A : Nat → Prop} {τ : Nat → ClassId} {ρ : Nat → Nat} {θ θc : List xE} {H : Heap} {locs : List Loc} {is : List Nat}
theorem xWc_at {σ : Nat → Nat} (hθ : is.map (fun i => θ[i]?) = θc.map (fun x => some (xEr σ x))) (hσ : ∀ (j i : Nat), is[j]? = some i → σ j = i) {j : Nat} {q : Nat × va_E} (hq : (xW (fun i => ρ (σ i)) τ θc)[j]? = some q) : ∃ i, is[j]? = some i ∧ q.1 = ρ i ∧ (xW ρ τ θ)[i]? = some q := by
  obtain ⟨hl, hi⟩ := xIs hθ
  rw [xW_get] at hq
  cases hc : θc[j]? with
  | none => rw [hc] at hq; cases hq
  | some x =>
    rw [hc] at hq
    cases hq
    have hj : j < is.length := by rw [hl]; exact (List.getElem?_eq_some_iff.mp hc).1
    obtain ⟨x', h1, h2⟩ := hi j _ (List.getElem?_eq_getElem hj)
    cases hc.symm.trans h1
    refine ⟨is[j], List.getElem?_eq_getElem hj, ?_, ?_⟩
    · show ρ (σ j) = _
      rw [hσ j _ (List.getElem?_eq_getElem hj)]
    · rw [xW_at h2, xC_xEr]
      show _ = some (ρ (σ j), _)
      rw [hσ j _ (List.getElem?_eq_getElem hj)]
theorem xFree {σ : Nat → Nat} (hθ : is.map (fun i => θ[i]?) = θc.map (fun x => some (xEr σ x))) (hσ : ∀ (j i : Nat), is[j]? = some i → σ j = i) (h4 : va_D A (xW ρ τ θ)) (h5 : va_S A s.heap H locs) (hA : ∀ q : Nat, s.heap.size ≤ q → A q) : ∀ q, va_A (xW (fun i => ρ (σ i)) τ θc) H.size q → A q := by
  intro q hq
  rcases hq with ⟨j, e, hj⟩ | hq
  · obtain ⟨i, -, -, h⟩ := xWc_at hθ hσ hj
    exact h4.2 i _ h
  · exact hA q (Nat.le_trans h5.1 hq)
theorem xEnter {σ : Nat → Nat} (hθ : is.map (fun i => θ[i]?) = θc.map (fun x => some (xEr σ x))) (hσ : ∀ (j i : Nat), is[j]? = some i → σ j = i) (hnd : is.Nodup) (h3 : va_P D vwCl (xW ρ τ θ) H) (h4 : va_D A (xW ρ τ θ)) (h5 : va_S A s.heap H locs) (hK : va_K D vwCl (xT τ) s) (hA : ∀ q : Nat, s.heap.size ≤ q → A q) (hT : xTab A s ∧ xNest s) : ∀ U : State, U.heap = H → s.WarmedH U.vm → xPre D τ (fun i => ρ (σ i)) θc H.size U := by
  intro U hU hW
  subst hU
  refine ⟨rfl, fun j q hq => ?_, va_K.moved hW.alike hK, ⟨fun i j p q hp hq e => ?_, fun _ _ _ => trivial⟩, ⟨hT.1.moves hW.alike h5.2.1 (xFree hθ hσ h4 h5 hA), hT.2.warm hW⟩⟩
  · obtain ⟨i, -, -, h⟩ := xWc_at hθ hσ hq
    exact h3 i q h
  · obtain ⟨a, a1, -, a2⟩ := xWc_at hθ hσ hp
    obtain ⟨b, b1, -, b2⟩ := xWc_at hθ hσ hq
    have hab := h4.1 a b p q a2 b2 e
    subst hab
    exact ((List.getElem?_inj (List.getElem?_eq_some_iff.mp a1).1 hnd).mp (a1.trans b1.symm))
theorem xBlind {av : List Value} {sz : Nat} : FrameBlind (va_Pc av (xPre D τ ρ θ sz)) := by
  rintro a U g mk ⟨q0, q1, qP, qK, qD, qT⟩
  exact ⟨q0, q1, qP, va_K.moved (u := U) (U := U.calling g mk a) (Vm.Alike.refl U.vm) qK, qD, ⟨qT.1.moves (u := U) (U := U.calling g mk a) (Vm.Alike.refl U.vm) (fun _ _ _ => rfl) (fun _ h => h), qT.2.same (u := U) (U := U.calling g mk a) rfl⟩⟩
def xAft (θ : List xE) (is : List Nat) (θ' : List xE) : List xE := xSet θ is ((θ'.take is.length).map (xEr (xS is θ.length))) ++ (θ'.drop is.length).map (xEr (xS is θ.length))
theorem xLeave {θ' : List xE} {nw : List Nat} {H1 : Heap} (hθ : is.map (fun i => θ[i]?) = θc.map (fun x => some (xEr (xS is θ.length) x))) (hnd : is.Nodup) (h3 : va_P D vwCl (xW ρ τ θ) H) (h4 : va_D A (xW ρ τ θ)) (hFA : ∀ q, va_A (xW (fun i => ρ (xS is θ.length i)) τ θc) H.size q → A q)
    (hcl : ∀ (i : Nat) (x : xE), θ[i]? = some x → xC (xX ρ θ.length nw) τ x = xC ρ τ x)
    (hlen : θ'.length = θc.length + nw.length) (hP1 : va_P D vwCl (xW (xX (fun i => ρ (xS is θ.length i)) θc.length nw) τ θ') H1) (hD1 : va_D (va_A (xW (fun i => ρ (xS is θ.length i)) τ θc) H.size) (xW (xX (fun i => ρ (xS is θ.length i)) θc.length nw) τ θ')) (hk : ∀ q : Nat, q < H.size → ¬ va_A (xW (fun i => ρ (xS is θ.length i)) τ θc) H.size q → H1[q]? = H[q]?) :
    (xAft θ is θ').length = θ.length + nw.length ∧ va_P D vwCl (xW (xX ρ θ.length nw) τ (xAft θ is θ')) H1 ∧ va_D A (xW (xX ρ θ.length nw) τ (xAft θ is θ')) ∧ (fun i => xX ρ θ.length nw (xS is θ.length i)) = xX (fun i => ρ (xS is θ.length i)) θc.length nw := by
  obtain ⟨hl, hi⟩ := xIs hθ
  have hσ : ∀ (j i : Nat), is[j]? = some i → xS is θ.length j = i := fun j i h => xS_lt h
  have hin : ∀ (j i : Nat), is[j]? = some i → i < θ.length := fun j i h => by
    obtain ⟨x, -, h2⟩ := hi j i h
    exact (List.getElem?_eq_some_iff.mp h2).1
  have hρ : (fun i => xX ρ θ.length nw (xS is θ.length i)) = xX (fun i => ρ (xS is θ.length i)) θc.length nw := by
    funext i
    by_cases h : i < is.length
    · have h9 : xS is θ.length i < θ.length := by
        rw [hσ i _ (List.getElem?_eq_getElem h)]
        exact hin i _ (List.getElem?_eq_getElem h)
      rw [xX_lt h9, xX_lt (by omega)]
    · have hs : xS is θ.length i = θ.length + (i - is.length) := xS_ge (by omega)
      unfold xX
      rw [hs, if_neg (by omega), if_neg (by omega), show θ.length + (i - is.length) - θ.length = i - θc.length by omega]
      simp only [hs]
  have hρl : ∀ (j i : Nat), is[j]? = some i → xX (fun i => ρ (xS is θ.length i)) θc.length nw j = ρ i := by
    intro j i h
    have h1 : j < is.length := (List.getElem?_eq_some_iff.mp h).1
    rw [xX_lt (by omega), hσ j i h]
  have hρn : ∀ j, xX ρ θ.length nw (θ.length + j) = xX (fun i => ρ (xS is θ.length i)) θc.length nw (θc.length + j) := by
    intro j
    rw [← hρ]
    show _ = xX ρ θ.length nw (xS is θ.length (θc.length + j))
    rw [xS_ge (by omega), show θc.length + j - is.length = j by omega]
  have htl : (θ'.take is.length).length = is.length := by rw [List.length_take]; omega
  have hlen2 : (xAft θ is θ').length = θ.length + nw.length := by
    unfold xAft
    rw [List.length_append, xSet_len, List.length_map, List.length_drop]
    omega
  have hget1 : ∀ (j i : Nat) (x : xE), is[j]? = some i → θ'[j]? = some x → (xAft θ is θ')[i]? = some (xEr (xS is θ.length) x) := by
    intro j i x h1 h2
    unfold xAft
    rw [List.getElem?_append_left (by rw [xSet_len]; exact hin j i h1)]
    refine xSet_in is θ _ j i _ hnd h1 ?_ (hin j i h1)
    have h3 : j < is.length := (List.getElem?_eq_some_iff.mp h1).1
    rw [List.getElem?_map, List.getElem?_take, if_pos h3, h2]
    rfl
  have hget2 : ∀ i, i < θ.length → i ∉ is → (xAft θ is θ')[i]? = θ[i]? := by
    intro i h1 h2
    unfold xAft
    rw [List.getElem?_append_left (by rw [xSet_len]; exact h1), xSet_out is _ _ _ h2]
  have hget3 : ∀ j, (xAft θ is θ')[θ.length + j]? = (θ'[θc.length + j]?).map (xEr (xS is θ.length)) := by
    intro j
    unfold xAft
    rw [List.getElem?_append_right (by rw [xSet_len]; omega), xSet_len, List.getElem?_map, List.getElem?_drop, show is.length + (θ.length + j - θ.length) = θc.length + j by omega]
  have hnew : ∀ j, j < nw.length → H.size ≤ xX ρ θ.length nw (θ.length + j) ∧ A (xX ρ θ.length nw (θ.length + j)) := by
    intro j hj
    obtain ⟨d1, d2⟩ := xD_iff.mp hD1
    have h1 := d2 (θc.length + j) (by omega)
    rw [← hρn j] at h1
    refine ⟨?_, hFA _ h1⟩
    rcases h1 with ⟨q, e, hq⟩ | h1
    · exfalso
      obtain ⟨i, i1, i2, -⟩ := xWc_at hθ hσ hq
      have hq1 : q < is.length := (List.getElem?_eq_some_iff.mp i1).1
      have h2 := d1 q (θc.length + j) (by omega) (by omega) (by rw [hρl q i i1, ← hρn j]; exact i2.symm)
      omega
    · exact h1
  have hold : ∀ i, i < θ.length → xX ρ θ.length nw i = ρ i := fun i h => xX_lt h
  have hltH : ∀ i, i < θ.length → ρ i < H.size := fun i h => (h3 i _ (xW_at (List.getElem?_eq_getElem h))).lt
  refine ⟨hlen2, fun i q hq => ?_, xD_iff.mpr ⟨fun i j hi' hj' e => ?_, fun i hi' => ?_⟩, hρ⟩
  · rw [xW_get] at hq
    by_cases h1 : i < θ.length
    · by_cases h2 : i ∈ is
      · obtain ⟨j, hj⟩ := List.getElem?_of_mem h2
        have hjl : j < is.length := (List.getElem?_eq_some_iff.mp hj).1
        have hj' : j < θ'.length := by omega
        rw [hget1 j i _ hj (List.getElem?_eq_getElem hj')] at hq
        cases hq
        have h5 := hP1 j _ (xW_at (List.getElem?_eq_getElem hj'))
        rw [hρl j i hj] at h5
        show va_at D vwCl (xX ρ θ.length nw i, xC (xX ρ θ.length nw) τ (xEr (xS is θ.length) θ'[j])) H1
        rw [hold i h1, xC_xEr, hρ]
        exact h5
      · rw [hget2 i h1 h2, List.getElem?_eq_getElem h1] at hq
        cases hq
        show va_at D vwCl (xX ρ θ.length nw i, xC (xX ρ θ.length nw) τ θ[i]) H1
        rw [hold i h1, hcl i _ (List.getElem?_eq_getElem h1)]
        refine (h3 i _ (xW_at (List.getElem?_eq_getElem h1))).kept (hk _ (hltH i h1) (fun h => ?_))
        rcases h with ⟨j, e, hj⟩ | h
        · obtain ⟨i', i1, i2, i3⟩ := xWc_at hθ hσ hj
          have := (xD_iff.mp h4).1 i i' h1 (hin j i' i1) i2
          subst this
          exact h2 (List.mem_of_getElem? i1)
        · have := hltH i h1
          simp only at h
          omega
    · obtain ⟨j, rfl⟩ : ∃ j, i = θ.length + j := ⟨i - θ.length, by omega⟩
      rw [hget3 j] at hq
      cases hc : θ'[θc.length + j]? with
      | none => rw [hc] at hq; cases hq
      | some x =>
        rw [hc] at hq
        cases hq
        have h5 := hP1 _ _ (xW_at hc)
        show va_at D vwCl (xX ρ θ.length nw (θ.length + j), xC (xX ρ θ.length nw) τ (xEr (xS is θ.length) x)) H1
        rw [hρn j, xC_xEr, hρ]
        exact h5
  · rw [hlen2] at hi' hj'
    by_cases h1 : i < θ.length
    · by_cases h2 : j < θ.length
      · rw [hold i h1, hold j h2] at e
        exact (xD_iff.mp h4).1 i j h1 h2 e
      · obtain ⟨j', rfl⟩ : ∃ j', j = θ.length + j' := ⟨j - θ.length, by omega⟩
        have := (hnew j' (by omega)).1
        have := hltH i h1
        rw [hold i h1] at e
        omega
    · obtain ⟨i', rfl⟩ : ∃ i', i = θ.length + i' := ⟨i - θ.length, by omega⟩
      by_cases h2 : j < θ.length
      · have := (hnew i' (by omega)).1
        have := hltH j h2
        rw [hold j h2] at e
        omega
      · obtain ⟨j', rfl⟩ : ∃ j', j = θ.length + j' := ⟨j - θ.length, by omega⟩
        rw [hρn, hρn] at e
        have := (xD_iff.mp hD1).1 _ _ (by omega) (by omega) e
        omega
  · rw [hlen2] at hi'
    by_cases h1 : i < θ.length
    · rw [hold i h1]
      exact (xD_iff.mp h4).2 i h1
    · obtain ⟨i', rfl⟩ : ∃ i', i = θ.length + i' := ⟨i - θ.length, by omega⟩
      exact (hnew i' (by omega)).2
end CL
end
section
theorem xL_id {σ : Nat → Nat} (h : ∀ i, σ i = i) : (∀ v, xV σ v = v) ∧ ∀ x, xEr σ x = x := by
  obtain rfl : σ = fun i => i := funext h
  have h1 : ∀ v, xV (fun i => i) v = v := fun v => by cases v <;> rfl
  refine ⟨h1, fun x => ?_⟩
  rcases x with ⟨t, n, a⟩ | ⟨c, fs⟩
  · rcases a with a | a | a | a | a <;> simp [xEr, xA]
  · simp only [xEr]
    congr 2
    rw [List.map_congr_left (fun v _ => h1 v)]
    exact List.map_id' fs
theorem xV_cats (ρ : Nat → Nat) (st : List Value) : ((st.map (xV ρ)).map fun v => v.category) = st.map fun v => v.category := by
  rw [List.map_map]
  exact List.map_congr_left (fun v _ => xV_cat ρ v)
theorem xS_range (n : Nat) : ∀ i, xS (List.range n) n i = i := by
  intro i
  unfold xS
  by_cases h : i < n
  · rw [List.getElem?_range h]
  · rw [List.getElem?_eq_none (by rw [List.length_range]; omega), List.length_range]
    simp only
    omega
theorem xSame_map (θ : List xE) : (List.range θ.length).map (fun i => θ[i]?) = θ.map (fun x => some (xEr (xS (List.range θ.length) θ.length) x)) := by
  apply List.ext_getElem?
  intro j
  rw [List.getElem?_map, List.getElem?_map]
  by_cases h : j < θ.length
  · rw [List.getElem?_range h, List.getElem?_eq_getElem h]
    simp only [Option.map_some, (xL_id (xS_range θ.length)).2]
    rw [List.getElem?_eq_getElem h]
  · rw [List.getElem?_eq_none (by rw [List.length_range]; omega), List.getElem?_eq_none (by omega)]
    rfl
theorem xSet_range : ∀ (xs θ pre : List xE), xs.length = θ.length → xSet (pre ++ θ) ((List.range θ.length).map (fun i => pre.length + i)) xs = pre ++ xs
  | [], θ, pre, h => by
    cases θ with
    | nil => rfl
    | cons a b => simp at h
  | x :: xs, [], pre, h => by simp at h
  | x :: xs, a :: θ, pre, h => by
    have h1 : (List.range (a :: θ).length).map (fun i => pre.length + i) = pre.length :: ((List.range θ.length).map (fun i => (pre ++ [x]).length + i)) := by
      rw [List.length_cons, List.range_succ_eq_map, List.map_cons, List.map_map]
      congr 1
      apply List.map_congr_left
      intro i _
      simp only [Function.comp_apply, List.length_append, List.length_cons, List.length_nil]
      omega
    rw [h1]
    show xSet ((pre ++ a :: θ).set pre.length x) _ xs = _
    rw [List.set_append_right _ _ (Nat.le_refl _), Nat.sub_self, List.set_cons_zero]
    have h2 := xSet_range xs θ (pre ++ [x]) (by simpa using h)
    rw [List.append_assoc] at h2
    simpa using h2
theorem xAft_same {θ θ' : List xE} (h : θ'.length = θ.length) : xAft θ (List.range θ.length) θ' = θ' := by
  unfold xAft
  have h1 := xSet_range θ' θ [] h
  simp only [List.nil_append, List.length_nil, Nat.zero_add, List.map_id'] at h1
  have h3 : (θ'.take (List.range θ.length).length).map (xEr (xS (List.range θ.length) θ.length)) = θ' := by
    rw [List.map_congr_left (fun x _ => (xL_id (xS_range θ.length)).2 x), List.map_id', List.length_range, List.take_of_length_le (by omega)]
  rw [h3, h1, List.length_range, List.drop_of_length_le (by omega)]
  simp
theorem xAft_nil (θ : List xE) : xAft θ [] [] = θ := by
  unfold xAft
  simp [xSet]
theorem xMTT {C : String} {y : MethodName} {b : ByteArray} {maxL na : Nat} {ret : Option FieldType} (hm : xM C y b maxL ret na) {w : Cond} (hw : w ∈ Cond.code y b maxL ret :: TT) : w ∈ TT := by
  rcases List.mem_cons.mp hw with rfl | h
  · exact hm.1
  · exact h
section RW1
variable {p : Program} {l : Launch} {e : Env} {R : Room} {s : State} {m : MethodId} {args : Array Value} {below : List Frame} {meth : Method} {c : Code} {H : Heap} {locs : List Loc} {cells slots mc ms : Nat} {Q : State → Prop} {pc : Nat} {ls : Array Slot} {rest st0 : List Value} {a : Array Value} {A A1 : Nat → Prop} {D : va_G} {τ : Nat → ClassId} {ρ : Nat → Nat} {θc : List xE} {fin : Option Value → List xE → Prop} {free : Addr → Prop}
theorem xRun (hr : va_Run p l e R s m args below meth c H locs cells slots mc ms (F0 m pc ls st0) rest (xPost D τ ρ θc H.size fin a) free) (h5 : va_S A s.heap H locs) (hFA : ∀ q, va_A (xW ρ τ θc) H.size q → A q) (hf : ∀ q, free q → A q)
    (kk : ∀ (r : Option Value) (θ' : List xE) (nw : List Nat) (H1 : Heap) (locs1 : List Loc), θ'.length = θc.length + nw.length → fin r θ' → va_P D vwCl (xW (xX ρ θc.length nw) τ θ') H1 → va_D (va_A (xW ρ τ θc) H.size) (xW (xX ρ θc.length nw) τ θ') → (∀ q : Nat, q < H.size → ¬ va_A (xW ρ τ θc) H.size q → H1[q]? = H[q]?) → va_S A s.heap H1 locs1 → W p l e R s m args below meth c H1 locs1 (cells + mc) (slots + ms) Q (F0 m (pc + 3) ls ((r.map (xV (xX ρ θc.length nw))).toList ++ rest))) :
    W p l e R s m args below meth c H locs cells slots Q (F0 m pc ls st0) := by
  intro T hT X
  obtain ⟨v, st₀, t, T', L, h0, X', hL, e1, e2, ⟨⟨r, θ', nw, hv, hlen, hfin, hP, hD⟩, hz, hk⟩, st⟩ := hr T hT X
  cases hv
  rw [h0] at hz hk
  obtain ⟨t2, a1, b1⟩ := kk r θ' nw T'.heap (locs ++ L) hlen hfin (by rw [e1]; exact hP) hD (fun q h1 h2 => by rw [e1]; exact hk q h1 h2)
    ⟨Nat.le_trans h5.1 (by rw [e1]; exact hz), fun q h1 h2 => by rw [e1, hk q (Nat.lt_of_lt_of_le h1 h5.1) (fun z => h2 (hFA q z))]; exact h5.2.1 q h1 h2, fun q hq => by
      rcases List.mem_append.mp hq with h | h
      · exact h5.2.2 q h
      · exact hf _ (hL q h)⟩ T' rfl X'
  exact ⟨t2, st t2 a1, b1⟩
end RW1
/-- closed under the first N places -/
def xKv (N : Nat) (v : Value) : Prop := match v with
  | .ref i => i < N ∨ 1000000 ≤ i
  | _ => True
def xKe (N : Nat) (x : xE) : Prop := match x with
  | .inl (_, _, .inr (.inr (.inr (.inr g)))) => ∀ k i, g k = some i → i < N
  | .inl _ => True
  | .inr o => ∀ v ∈ o.2, xKv N v
theorem xKv_eq {N : Nat} {ρ ρ' : Nat → Nat} (hρ : ∀ i, i < N ∨ 1000000 ≤ i → ρ' i = ρ i) {v : Value} (h : xKv N v) : xV ρ' v = xV ρ v := by
  cases v with
  | ref i => exact congrArg Value.ref (hρ i h)
  | _ => rfl
theorem xKe_eq {N : Nat} {ρ ρ' : Nat → Nat} {τ : Nat → ClassId} (hρ : ∀ i, i < N ∨ 1000000 ≤ i → ρ' i = ρ i) {x : xE} (h : xKe N x) : xC ρ' τ x = xC ρ τ x := by
  rcases x with ⟨t, n, a⟩ | ⟨c, fs⟩
  · rcases a with a | a | a | a | a
    · rfl
    · rfl
    · rfl
    · rfl
    · simp only [xC, xA]
      congr 7
      funext k
      cases hg : a k with
      | none => rfl
      | some i => exact congrArg some (hρ i (Or.inl (h k i hg)))
  · simp only [xC]
    congr 2
    exact List.map_congr_left (fun v hv => xKv_eq hρ (h v hv))
/-- all that is closed: world, locals, stack -/
def xKa (N : Nat) (θ : List xE) (lv : List (Option Value)) (st : List Value) : Prop := (∀ (i : Nat) (x : xE), θ[i]? = some x → xKe N x) ∧ (∀ (i : Nat) (v : Value), lv[i]? = some (some v) → xKv N v) ∧ ∀ v ∈ st, xKv N v
section FW
variable {cc : ByteArray} {own nm : String} {nL : Nat} {R : Room} {g : Nat → Nat → List xE → Nat → List (Option Value) → List Value → Prop} {k n : Nat} {θ : List xE} {pc : Nat} {lv : List (Option Value)} {st : List Value}
variable {y : MethodName} {bytes : ByteArray} {maxL na ix mc ms : Nat} {ret : Option FieldType} {rm : Room} {θc : List xE} {fin : Option Value → List xE → Prop} {cn : String} {b : Nat} {st0 : List Value}
theorem r_callV (C : Sem cc own nm nL R g) (is : List Nat) {b' ci : Nat} {As' As : List Value} {fs : List Value} {T : u_T} {N : Nat} (hM : MetA y (.code y bytes maxL ret :: TT) rm (.ref b' :: As') θc fin mc ms) (hm : xMV cn y bytes maxL ret na) (hlk : Cond.methodLink own ix y ∈ TT) (d : decode cc pc = .ok (.invokevirtual ix, 3))
    (hθ : is.map (fun i => θ[i]?) = θc.map (fun x => some (xEr (xS is θ.length) x))) (hnd : is.Nodup) (hargs : (Value.ref b' :: As').map (xV (xS is θ.length)) = .ref b :: As) (hrecv : θ[b]? = some (.inr (ci, fs))) (hcl : vwCl[ci]? = some (cn, T, N)) (hst : st0 = As.reverse ++ .ref b :: st) (hna : As.length = na) (hroom : (st.map fun v => v.category).sum ≤ 8)
    (hR : rm.frames + 1 ≤ R.frames ∧ 8 + (maxL + 11) + rm.locals ≤ R.locals) (hrc : rm.cells = mc ∧ rm.slots = ms) (hkn : k + mc ≤ R.cells ∧ n + ms ≤ R.slots) (hL : lv.length = nL) (hfl : ∀ r θ', fin r θ' → θ'.length = θc.length)
    (kk : ∀ r θ', fin r θ' → g (k + mc) (n + ms) (xAft θ is θ') (pc + 3) lv ((r.map (xV (xS is θ.length))).toList ++ st)) : g k n θ pc lv st0 := by
  obtain ⟨p, l, e, s, m, args, below, meth, c, D, A, τ, ρ0, n0, Q, ⟨hx, hb, hts, hown, hnm, hml⟩, ⟨hK, hA, hT⟩, rfl⟩ := C
  subst hst
  intro ρ H locs ls h1 h3 h4 h5 h6
  have hσ : ∀ (j i : Nat), is[j]? = some i → xS is θ.length j = i := fun j i h => xS_lt h
  have hE := xEnter (s := s) hθ hσ hnd h3 h4 h5 hK hA hT
  have hFA := xFree (s := s) hθ hσ h4 h5 hA
  have hav : (Value.ref b' :: As').map (xV (fun i => ρ (xS is θ.length i))) = .ref (ρ b) :: As.map (xV ρ) := by
    have h7 := congrArg (List.map (xV ρ)) hargs
    rw [List.map_map] at h7
    rw [List.map_congr_left (fun v _ => (xV_xV ρ (xS is θ.length) v).symm)]
    exact h7
  have hcat : (((st.map (xV ρ))).map fun v => v.category).sum ≤ 8 := by
    rw [xV_cats]
    exact hroom
  have hM' := hM l D τ (fun i => ρ (xS is θ.length i)) H.size
  rw [hav] at hM'
  have hr := va_runV (p := p) (e := e) (R := R) (s := s) (below := below) (meth := meth) (locs := locs) (cells := k) (slots := n) (g := F0 m pc ls ((As.reverse ++ .ref b :: st).map (xV ρ))) (As := As.map (xV ρ)) (rest := st.map (xV ρ)) (b := ρ b) ⟨hx, hb, hml, hown, hts⟩ hM' (cwV na hts (xGV hm hlk) rfl hrc.1 hrc.2 hm.1.2.2 hR)
    ⟨xBlind, va_recv hK h3 hcl (xW_at hrecv), fun U hU hW => ⟨rfl, hE U hU hW⟩⟩ rfl (by rw [List.length_map]; exact hna) (h6.1.trans hL) (by simp [List.map_append, List.map_reverse, xV]) (lv_room hcat) d hkn
  refine xRun hr h5 hFA hFA (fun r θ' nw H1 locs1 g1 g2 g3 g4 g5 g6 => ?_)
  have hnw : nw = [] := by
    have h8 := hfl r θ' g2
    cases nw with
    | nil => rfl
    | cons a b => simp at g1; omega
  subst hnw
  obtain ⟨w1, w2, w3, w4⟩ := xLeave hθ hnd h3 h4 hFA (fun i x _ => by rw [xX_nil]) g1 g3 g4 g5
  rw [xX_nil] at w2 w3
  simp only [List.length_nil, Nat.add_zero] at w1
  have w5 := kk r θ' g2 ρ H1 locs1 ls (by rw [w1]; exact h1) w2 w3 g6 h6
  rw [xX_nil]
  have w6 : (((r.map (xV (xS is θ.length))).toList ++ st).map (xV ρ)) = (r.map (xV (fun i => ρ (xS is θ.length i)))).toList ++ st.map (xV ρ) := by
    cases r with
    | none => rfl
    | some v => simp [xV_xV]
  rw [w6] at w5
  exact w5
theorem r_callS (C : Sem cc own nm nL R g) (is : List Nat) {As' As : List Value} (hM : MetA y (.code y bytes maxL ret :: TT) rm As' θc fin mc ms) (hm : xMS cn y bytes maxL ret na) (hlk : Cond.methodLink own ix y ∈ TT) (d : decode cc pc = .ok (.invokestatic ix, 3))
    (hθ : is.map (fun i => θ[i]?) = θc.map (fun x => some (xEr (xS is θ.length) x))) (hnd : is.Nodup) (hargs : As'.map (xV (xS is θ.length)) = As) (hst : st0 = As.reverse ++ st) (hna : As.length = na) (hroom : (st.map fun v => v.category).sum ≤ 8)
    (hR : rm.frames + 1 ≤ R.frames ∧ 8 + (maxL + 11) + rm.locals ≤ R.locals) (hrc : rm.cells = mc ∧ rm.slots = ms) (hkn : k + mc ≤ R.cells ∧ n + ms ≤ R.slots) (hL : lv.length = nL) (hfl : ∀ r θ', fin r θ' → θ'.length = θc.length)
    (kk : ∀ r θ', fin r θ' → g (k + mc) (n + ms) (xAft θ is θ') (pc + 3) lv ((r.map (xV (xS is θ.length))).toList ++ st)) : g k n θ pc lv st0 := by
  obtain ⟨p, l, e, s, m, args, below, meth, c, D, A, τ, ρ0, n0, Q, ⟨hx, hb, hts, hown, hnm, hml⟩, ⟨hK, hA, hT⟩, rfl⟩ := C
  subst hst
  intro ρ H locs ls h1 h3 h4 h5 h6
  have hσ : ∀ (j i : Nat), is[j]? = some i → xS is θ.length j = i := fun j i h => xS_lt h
  have hE := xEnter (s := s) hθ hσ hnd h3 h4 h5 hK hA hT
  have hFA := xFree (s := s) hθ hσ h4 h5 hA
  have hav : As'.map (xV (fun i => ρ (xS is θ.length i))) = As.map (xV ρ) := by
    have h7 := congrArg (List.map (xV ρ)) hargs
    rw [List.map_map] at h7
    rw [List.map_congr_left (fun v _ => (xV_xV ρ (xS is θ.length) v).symm)]
    exact h7
  have hcat : (((st.map (xV ρ))).map fun v => v.category).sum ≤ 8 := by
    rw [xV_cats]
    exact hroom
  have hM' := hM l D τ (fun i => ρ (xS is θ.length i)) H.size
  rw [hav] at hM'
  have hr := va_runS (p := p) (e := e) (R := R) (s := s) (below := below) (meth := meth) (locs := locs) (cells := k) (slots := n) (g := F0 m pc ls ((As.reverse ++ st).map (xV ρ))) (As := As.map (xV ρ)) (rest := st.map (xV ρ)) ⟨hx, hb, hml, hown, hts⟩ hM' (va_cwS na hts (xGS hm hlk) rfl hrc.1 hrc.2 hm.1.2.2.2 hR)
    ⟨xBlind, fun U hU hW => ⟨rfl, hE U hU hW⟩⟩ rfl (by rw [List.length_map]; exact hna) (h6.1.trans hL) (by simp [List.map_append, List.map_reverse, xV]) (lv_room hcat) d hkn
  refine xRun hr h5 hFA hFA (fun r θ' nw H1 locs1 g1 g2 g3 g4 g5 g6 => ?_)
  have hnw : nw = [] := by
    have h8 := hfl r θ' g2
    cases nw with
    | nil => rfl
    | cons a b => simp at g1; omega
  subst hnw
  obtain ⟨w1, w2, w3, w4⟩ := xLeave hθ hnd h3 h4 hFA (fun i x _ => by rw [xX_nil]) g1 g3 g4 g5
  rw [xX_nil] at w2 w3
  simp only [List.length_nil, Nat.add_zero] at w1
  have w5 := kk r θ' g2 ρ H1 locs1 ls (by rw [w1]; exact h1) w2 w3 g6 h6
  rw [xX_nil]
  have w6 : (((r.map (xV (xS is θ.length))).toList ++ st).map (xV ρ)) = (r.map (xV (fun i => ρ (xS is θ.length i)))).toList ++ st.map (xV ρ) := by
    cases r with
    | none => rfl
    | some v => simp [xV_xV]
  rw [w6] at w5
  exact w5
theorem r_callSN (C : Sem cc own nm nL R g) (is : List Nat) {As' As : List Value} (hM : MetA y (.code y bytes maxL ret :: TT) rm As' θc fin mc ms) (hm : xMS cn y bytes maxL ret na) (hlk : Cond.methodLinkNest own ix y cn ∈ xNw) (d : decode cc pc = .ok (.invokestatic ix, 3))
    (hθ : is.map (fun i => θ[i]?) = θc.map (fun x => some (xEr (xS is θ.length) x))) (hnd : is.Nodup) (hargs : As'.map (xV (xS is θ.length)) = As) (hst : st0 = As.reverse ++ st) (hna : As.length = na) (hroom : (st.map fun v => v.category).sum ≤ 8)
    (hR : rm.frames + 1 ≤ R.frames ∧ 8 + (maxL + 11) + rm.locals ≤ R.locals) (hrc : rm.cells = mc ∧ rm.slots = ms) (hkn : k + mc ≤ R.cells ∧ n + ms ≤ R.slots) (hL : lv.length = nL) (hfl : ∀ r θ', fin r θ' → θ'.length = θc.length)
    (kk : ∀ r θ', fin r θ' → g (k + mc) (n + ms) (xAft θ is θ') (pc + 3) lv ((r.map (xV (xS is θ.length))).toList ++ st)) : g k n θ pc lv st0 := by
  obtain ⟨p, l, e, s, m, args, below, meth, c, D, A, τ, ρ0, n0, Q, ⟨hx, hb, hts, hown, hnm, hml⟩, ⟨hK, hA, hT⟩, rfl⟩ := C
  subst hst
  intro ρ H locs ls h1 h3 h4 h5 h6
  have hσ : ∀ (j i : Nat), is[j]? = some i → xS is θ.length j = i := fun j i h => xS_lt h
  have hE := xEnter (s := s) hθ hσ hnd h3 h4 h5 hK hA hT
  have hFA := xFree (s := s) hθ hσ h4 h5 hA
  have hav : As'.map (xV (fun i => ρ (xS is θ.length i))) = As.map (xV ρ) := by
    have h7 := congrArg (List.map (xV ρ)) hargs
    rw [List.map_map] at h7
    rw [List.map_congr_left (fun v _ => (xV_xV ρ (xS is θ.length) v).symm)]
    exact h7
  have hcat : (((st.map (xV ρ))).map fun v => v.category).sum ≤ 8 := by
    rw [xV_cats]
    exact hroom
  have hM' := hM l D τ (fun i => ρ (xS is θ.length i)) H.size
  rw [hav] at hM'
  have hr := va_runSN (host := cn) (p := p) (e := e) (R := R) (s := s) (below := below) (meth := meth) (locs := locs) (cells := k) (slots := n) (g := F0 m pc ls ((As.reverse ++ st).map (xV ρ))) (As := As.map (xV ρ)) (rest := st.map (xV ρ)) ⟨hx, hb, hml, hown, hts⟩ hM' ⟨va_cnB na hts (fun w hw => (⟨xMTT hm.1 hw, good_of_word (TT_good (xMTT hm.1 hw))⟩ : w ∈ TT ∧ _)) rfl hrc.1 hrc.2 (hT.2 _ hlk) (hts _ (by rw [hm.1.2.2.1]; exact hm.1.2.1)) hm.1.2.2.2 hR, hts _ hm.2, trivial⟩
    ⟨xBlind, fun U hU hW => ⟨rfl, hE U hU hW⟩⟩ rfl (by rw [List.length_map]; exact hna) (h6.1.trans hL) (by simp [List.map_append, List.map_reverse, xV]) (lv_room hcat) d hkn
  refine xRun hr h5 hFA hFA (fun r θ' nw H1 locs1 g1 g2 g3 g4 g5 g6 => ?_)
  have hnw : nw = [] := by
    have h8 := hfl r θ' g2
    cases nw with
    | nil => rfl
    | cons a b => simp at g1; omega
  subst hnw
  obtain ⟨w1, w2, w3, w4⟩ := xLeave hθ hnd h3 h4 hFA (fun i x _ => by rw [xX_nil]) g1 g3 g4 g5
  rw [xX_nil] at w2 w3
  simp only [List.length_nil, Nat.add_zero] at w1
  have w5 := kk r θ' g2 ρ H1 locs1 ls (by rw [w1]; exact h1) w2 w3 g6 h6
  rw [xX_nil]
  have w6 : (((r.map (xV (xS is θ.length))).toList ++ st).map (xV ρ)) = (r.map (xV (fun i => ρ (xS is θ.length i)))).toList ++ st.map (xV ρ) := by
    cases r with
    | none => rfl
    | some v => simp [xV_xV]
  rw [w6] at w5
  exact w5
theorem r_callV0 (C : Sem cc own nm nL R g) {ci : Nat} {As : List Value} {fs : List Value} {T : u_T} {N : Nat} {r : Option Value} {θ' : List xE} (hM : MetA y (.code y bytes maxL ret :: TT) rm (.ref b :: As) θ (fun a b => a = r ∧ b = θ') 0 0) (hm : xMV cn y bytes maxL ret na) (hlk : Cond.methodLink own ix y ∈ TT) (d : decode cc pc = .ok (.invokevirtual ix, 3))
    (hrecv : θ[b]? = some (.inr (ci, fs))) (hcl : vwCl[ci]? = some (cn, T, N)) (hst : st0 = As.reverse ++ .ref b :: st) (hna : As.length = na) (hroom : (st.map fun v => v.category).sum ≤ 8)
    (hR : rm.frames + 1 ≤ R.frames ∧ 8 + (maxL + 11) + rm.locals ≤ R.locals) (hrc : rm.cells = 0 ∧ rm.slots = 0) (hkn : k ≤ R.cells ∧ n ≤ R.slots) (hL : lv.length = nL) (hfl : θ'.length = θ.length)
    (kk : g k n θ' (pc + 3) lv (r.toList ++ st)) : g k n θ pc lv st0 := by
  refine r_callV C (List.range θ.length) hM hm hlk d (xSame_map θ) List.nodup_range ?_ hrecv hcl hst hna hroom hR hrc hkn hL (fun r' θ'' h => by rw [h.2]; exact hfl) (fun r' θ'' h => ?_)
  · rw [List.map_congr_left (fun v _ => (xL_id (xS_range θ.length)).1 v), List.map_id']
  · obtain ⟨rfl, rfl⟩ := h
    rw [xAft_same hfl]
    have h1 : (r'.map (xV (xS (List.range θ.length) θ.length))) = r' := by
      cases r' with
      | none => rfl
      | some v => exact congrArg some ((xL_id (xS_range θ.length)).1 v)
    rw [h1]
    exact kk
/-- a static method of numbers alone -/
theorem r_callS0 (C : Sem cc own nm nL R g) {As : List Value} {r : Option Value} (hM : MetA y (.code y bytes maxL ret :: TT) rm As [] (fun a b => a = r ∧ b = []) 0 0) (hm : xMS cn y bytes maxL ret na) (hlk : Cond.methodLink own ix y ∈ TT) (d : decode cc pc = .ok (.invokestatic ix, 3))
    (hargs : ∀ σ, As.map (xV σ) = As) (hr : ∀ σ, r.map (xV σ) = r) (hst : st0 = As.reverse ++ st) (hna : As.length = na) (hroom : (st.map fun v => v.category).sum ≤ 8)
    (hR : rm.frames + 1 ≤ R.frames ∧ 8 + (maxL + 11) + rm.locals ≤ R.locals) (hrc : rm.cells = 0 ∧ rm.slots = 0) (hkn : k ≤ R.cells ∧ n ≤ R.slots) (hL : lv.length = nL)
    (kk : g k n θ (pc + 3) lv (r.toList ++ st)) : g k n θ pc lv st0 := by
  refine r_callS C [] hM hm hlk d rfl List.nodup_nil (hargs _) hst hna hroom hR hrc hkn hL (fun r' θ'' h => by rw [h.2]) (fun r' θ'' h => ?_)
  obtain ⟨rfl, rfl⟩ := h
  rw [xAft_nil, hr]
  exact kk
theorem r_callSN0 (C : Sem cc own nm nL R g) {As : List Value} {r : Option Value} (hM : MetA y (.code y bytes maxL ret :: TT) rm As [] (fun a b => a = r ∧ b = []) 0 0) (hm : xMS cn y bytes maxL ret na) (hlk : Cond.methodLinkNest own ix y cn ∈ xNw) (d : decode cc pc = .ok (.invokestatic ix, 3))
    (hargs : ∀ σ, As.map (xV σ) = As) (hr : ∀ σ, r.map (xV σ) = r) (hst : st0 = As.reverse ++ st) (hna : As.length = na) (hroom : (st.map fun v => v.category).sum ≤ 8)
    (hR : rm.frames + 1 ≤ R.frames ∧ 8 + (maxL + 11) + rm.locals ≤ R.locals) (hrc : rm.cells = 0 ∧ rm.slots = 0) (hkn : k ≤ R.cells ∧ n ≤ R.slots) (hL : lv.length = nL)
    (kk : g k n θ (pc + 3) lv (r.toList ++ st)) : g k n θ pc lv st0 := by
  refine r_callSN C [] hM hm hlk d rfl List.nodup_nil (hargs _) hst hna hroom hR hrc hkn hL (fun r' θ'' h => by rw [h.2]) (fun r' θ'' h => ?_)
  obtain ⟨rfl, rfl⟩ := h
  rw [xAft_nil, hr]
  exact kk
/-- a virtual call on a part of the world -/
theorem r_callVD (C : Sem cc own nm nL R g) (is : List Nat) {b' ci : Nat} {As' As : List Value} {fs : List Value} {T : u_T} {N : Nat} {r r2 : Option Value} {θc' θ2 : List xE} (hM : MetA y (.code y bytes maxL ret :: TT) rm (.ref b' :: As') θc (fun a b => a = r ∧ b = θc') 0 0) (hm : xMV cn y bytes maxL ret na) (hlk : Cond.methodLink own ix y ∈ TT) (d : decode cc pc = .ok (.invokevirtual ix, 3))
    (hθ : is.map (fun i => θ[i]?) = θc.map (fun x => some (xEr (xS is θ.length) x))) (hnd : is.Nodup) (hargs : (Value.ref b' :: As').map (xV (xS is θ.length)) = .ref b :: As) (hrecv : θ[b]? = some (.inr (ci, fs))) (hcl : vwCl[ci]? = some (cn, T, N)) (hst : st0 = As.reverse ++ .ref b :: st) (hna : As.length = na) (hroom : (st.map fun v => v.category).sum ≤ 8)
    (hR : rm.frames + 1 ≤ R.frames ∧ 8 + (maxL + 11) + rm.locals ≤ R.locals) (hrc : rm.cells = 0 ∧ rm.slots = 0) (hkn : k ≤ R.cells ∧ n ≤ R.slots) (hL : lv.length = nL) (hfl : θc'.length = θc.length) (h2 : xSet θ is (θc'.map (xEr (xS is θ.length))) = θ2) (hr : r.map (xV (xS is θ.length)) = r2)
    (kk : g k n θ2 (pc + 3) lv (r2.toList ++ st)) : g k n θ pc lv st0 := by
  refine r_callV C is hM hm hlk d hθ hnd hargs hrecv hcl hst hna hroom hR hrc hkn hL (fun r' θ'' h => by rw [h.2]; exact hfl) (fun r' θ'' h => ?_)
  obtain ⟨rfl, rfl⟩ := h
  have h3 : xAft θ is θ'' = θ2 := by
    unfold xAft
    have h4 := (xIs hθ).1
    rw [List.take_of_length_le (by omega), List.drop_of_length_le (by omega), h2]
    simp
  rw [h3, hr]
  exact kk
theorem r_callSD (C : Sem cc own nm nL R g) (is : List Nat) {As' As : List Value} {r r2 : Option Value} {θc' θ2 : List xE} (hM : MetA y (.code y bytes maxL ret :: TT) rm As' θc (fun a b => a = r ∧ b = θc') 0 0) (hm : xMS cn y bytes maxL ret na) (hlk : Cond.methodLink own ix y ∈ TT) (d : decode cc pc = .ok (.invokestatic ix, 3))
    (hθ : is.map (fun i => θ[i]?) = θc.map (fun x => some (xEr (xS is θ.length) x))) (hnd : is.Nodup) (hargs : As'.map (xV (xS is θ.length)) = As) (hst : st0 = As.reverse ++ st) (hna : As.length = na) (hroom : (st.map fun v => v.category).sum ≤ 8)
    (hR : rm.frames + 1 ≤ R.frames ∧ 8 + (maxL + 11) + rm.locals ≤ R.locals) (hrc : rm.cells = 0 ∧ rm.slots = 0) (hkn : k ≤ R.cells ∧ n ≤ R.slots) (hL : lv.length = nL) (hfl : θc'.length = θc.length) (h2 : xSet θ is (θc'.map (xEr (xS is θ.length))) = θ2) (hr : r.map (xV (xS is θ.length)) = r2)
    (kk : g k n θ2 (pc + 3) lv (r2.toList ++ st)) : g k n θ pc lv st0 := by
  refine r_callS C is hM hm hlk d hθ hnd hargs hst hna hroom hR hrc hkn hL (fun r' θ'' h => by rw [h.2]; exact hfl) (fun r' θ'' h => ?_)
  obtain ⟨rfl, rfl⟩ := h
  have h3 : xAft θ is θ'' = θ2 := by
    unfold xAft
    have h4 := (xIs hθ).1
    rw [List.take_of_length_le (by omega), List.drop_of_length_le (by omega), h2]
    simp
  rw [h3, hr]
  exact kk
end FW
end
section
def xLa : List Value → List (Option Value)
  | [] => []
  | .long x :: vs => some (.long x) :: none :: xLa vs
  | .double x :: vs => some (.double x) :: none :: xLa vs
  | v :: vs => some v :: xLa vs
def xLv (av : List Value) (n : Nat) : List (Option Value) := xLa av ++ List.replicate (n - (xLa av).length) none
theorem xLa_args (ρ : Nat → Nat) : ∀ (av : List Value) (b i : Nat) (v : Value), (xLa av)[i]? = some (some v) → (b + i, xV ρ v) ∈ lv_args b (av.map (xV ρ))
  | [], b, i, v, h => by simp [xLa] at h
  | a :: av, b, i, v, h => by
    have ih := xLa_args ρ av
    cases a with
    | long x =>
      rcases i with _ | _ | i
      · simp only [xLa, List.getElem?_cons_zero, Option.some.injEq] at h
        subst h
        exact List.mem_cons_self
      · simp [xLa] at h
      · simp only [xLa, List.getElem?_cons_succ] at h
        have h2 := ih (b + 2) i v h
        refine List.mem_cons_of_mem _ ?_
        show (b + (i + 1 + 1), _) ∈ lv_args (b + 2) _
        rw [show b + (i + 1 + 1) = b + 2 + i by omega]
        exact h2
    | double x =>
      rcases i with _ | _ | i
      · simp only [xLa, List.getElem?_cons_zero, Option.some.injEq] at h
        subst h
        exact List.mem_cons_self
      · simp [xLa] at h
      · simp only [xLa, List.getElem?_cons_succ] at h
        have h2 := ih (b + 2) i v h
        refine List.mem_cons_of_mem _ ?_
        show (b + (i + 1 + 1), _) ∈ lv_args (b + 2) _
        rw [show b + (i + 1 + 1) = b + 2 + i by omega]
        exact h2
    | int x | float x | null | ref x | retAddr x =>
      rcases i with _ | i
      · simp only [xLa, List.getElem?_cons_zero, Option.some.injEq] at h
        subst h
        exact List.mem_cons_self
      · simp only [xLa, List.getElem?_cons_succ] at h
        have h2 := ih (b + 1) i v h
        refine List.mem_cons_of_mem _ ?_
        rw [show b + (i + 1) = b + 1 + i by omega]
        exact h2
theorem xL_entry {ρ : Nat → Nat} {av : List Value} {n : Nat} (h1 : (lg_sl (av.map (xV ρ))).length ≤ n) (h2 : (xLa av).length ≤ n) : xL ρ ((lg_sl (av.map (xV ρ)) ++ List.replicate (n - (lg_sl (av.map (xV ρ))).length) Slot.unset).toArray) (xLv av n) := by
  obtain ⟨a1, a2, a3⟩ := lv_entry (av.map (xV ρ)) h1
  refine ⟨by rw [a1]; simp only [xLv, List.length_append, List.length_replicate]; omega, a2, fun i v hv => ?_⟩
  unfold xLv at hv
  by_cases hi : i < (xLa av).length
  · rw [List.getElem?_append_left hi] at hv
    have h3 := xLa_args ρ av 0 i v hv
    rw [Nat.zero_add] at h3
    exact a3 _ h3
  · rw [List.getElem?_append_right (by omega), List.getElem?_replicate] at hv
    split at hv <;> cases hv
/-- how a method that answers an int, or a boolean, ends -/
def xEi (g : Nat → Nat → List xE → Nat → List (Option Value) → List Value → Prop) (cc : ByteArray) (rt : FieldType) (mc ms : Nat) (fin : Option Value → List xE → Prop) : Prop := ∀ (k n : Nat) (θ : List xE) (pc : Nat) (lv : List (Option Value)) (v : Int32), decode cc pc = .ok (.ireturn, 1) → k ≤ mc → n ≤ ms → narrow rt (.int v) = .int v → fin (some (.int v)) θ → g k n θ pc lv [.int v]
def xEv (g : Nat → Nat → List xE → Nat → List (Option Value) → List Value → Prop) (cc : ByteArray) (mc ms : Nat) (fin : Option Value → List xE → Prop) : Prop := ∀ (k n : Nat) (θ : List xE) (pc : Nat) (lv : List (Option Value)), decode cc pc = .ok (.return_, 1) → k ≤ mc → n ≤ ms → fin none θ → g k n θ pc lv []
theorem xSem {p : Program} {l : Launch} {e : Env} {R : Room} {s : State} {m : MethodId} {args : Array Value} {below : List Frame} {meth : Method} {c : Code} {D : va_G} {τ : Nat → ClassId} {ρ : Nat → Nat} {θ : List xE} {cc : ByteArray} {y : MethodName} {maxL : Nat} {ret : Option FieldType} {Q : State → Prop} {s₁ : State}
    (B : BodyLoose p l y (headSpec (.code y cc maxL ret :: TT) R) cc maxL ret e s m args below meth c s₁) (hml : c.maxLocals = maxL) (hv : xPre D τ ρ θ s.heap.size s) : Sem cc y.cls y.name maxL R (G p l e R s m args below meth c D (va_A (xW ρ τ θ) s.heap.size) τ ρ θ.length Q) := by
  obtain ⟨-, hP, hK, hD0, hT⟩ := hv
  exact ⟨p, l, e, s, m, args, below, meth, c, D, _, τ, ρ, θ.length, Q, ⟨B.exec, B.bytes, fun w hw => atoms_spec (ws := .code y cc maxL ret :: TT) B.pre w (List.mem_cons_of_mem _ hw), findClass_of_methodNamed B.named, (name_of_methodNamed B.named B.method).1, hml⟩, ⟨hK, fun q hq => Or.inr hq, hT⟩, rfl⟩
theorem MetA.of_i {y : MethodName} {cc : ByteArray} {maxL : Nat} {rt : FieldType} {rm : Room} {av : List Value} {θ : List xE} {fin : Option Value → List xE → Prop} {mc ms : Nat} (hy : plainName y.cls = true) (h1 : ∀ ρ, (lg_sl (av.map (xV ρ))).length ≤ maxL) (h2 : (xLa av).length ≤ maxL)
    (body : ∀ g, Sem cc y.cls y.name maxL rm g → xEi g cc rt mc ms fin → g 0 0 θ 0 (xLv av maxL) []) : MetA y (.code y cc maxL (some rt) :: TT) rm av θ fin mc ms := by
  intro l D τ ρ sz
  refine Met.ofW (cc := cc) (maxL := maxL) (ret := some rt) hy rfl ?_
  intro p e s m args below meth c s₁ B hml hv
  obtain ⟨rfl, hv⟩ := hv
  have hsz := hv.1
  subst hsz
  have C := xSem (Q := MQ below (xPost D τ ρ θ s.heap.size fin) ((av.map (xV ρ)).toArray) s mc ms (va_A (xW ρ τ θ) s.heap.size)) B hml hv
  have hx := B.exec
  have hb := B.bytes
  have hr := B.returns
  have hlocks := B.notSynchronized
  have K := body _ C (fun k n θ' pc lv v d k1 k2 hn hf => by
    intro ρ' H locs ls ⟨nw, e1, e2⟩ g3 g4 g5 g6
    subst e2
    refine W.widen k1 k2 ?_
    exact W.zret hx hb hr hn (fun t ht hW => ⟨⟨some (.int v), θ', nw, rfl, e1, hf, by rw [ht]; exact g3, g4⟩, g5.F ht⟩) g5.2.2 d hlocks)
  rw [lg_entry_eq]
  exact K ρ s.heap [] _ ⟨[], by simp, (xX_nil _ _).symm⟩ hv.2.1 hv.2.2.2.1.self va_S.rf (xL_entry (h1 ρ) h2)
theorem MetA.of_v {y : MethodName} {cc : ByteArray} {maxL : Nat} {rm : Room} {av : List Value} {θ : List xE} {fin : Option Value → List xE → Prop} {mc ms : Nat} (hy : plainName y.cls = true) (h1 : ∀ ρ, (lg_sl (av.map (xV ρ))).length ≤ maxL) (h2 : (xLa av).length ≤ maxL)
    (body : ∀ g, Sem cc y.cls y.name maxL rm g → xEv g cc mc ms fin → g 0 0 θ 0 (xLv av maxL) []) : MetA y (.code y cc maxL none :: TT) rm av θ fin mc ms := by
  intro l D τ ρ sz
  refine Met.ofW (cc := cc) (maxL := maxL) (ret := none) hy rfl ?_
  intro p e s m args below meth c s₁ B hml hv
  obtain ⟨rfl, hv⟩ := hv
  have hsz := hv.1
  subst hsz
  have C := xSem (Q := MQ below (xPost D τ ρ θ s.heap.size fin) ((av.map (xV ρ)).toArray) s mc ms (va_A (xW ρ τ θ) s.heap.size)) B hml hv
  have hx := B.exec
  have hb := B.bytes
  have hr := B.returns
  have hlocks := B.notSynchronized
  have K := body _ C (fun k n θ' pc lv d k1 k2 hf => by
    intro ρ' H locs ls ⟨nw, e1, e2⟩ g3 g4 g5 g6
    subst e2
    refine W.widen k1 k2 ?_
    exact W.vret hx hb hr (fun t ht hW => ⟨⟨none, θ', nw, rfl, e1, hf, by rw [ht]; exact g3, g4⟩, g5.F ht⟩) g5.2.2 d hlocks)
  rw [lg_entry_eq]
  exact K ρ s.heap [] _ ⟨[], by simp, (xX_nil _ _).symm⟩ hv.2.1 hv.2.2.2.1.self va_S.rf (xL_entry (h1 ρ) h2)
section FW
variable {cc : ByteArray} {own nm : String} {nL : Nat} {R : Room} {g : Nat → Nat → List xE → Nat → List (Option Value) → List Value → Prop} {k n : Nat} {θ : List xE} {pc : Nat} {lv : List (Option Value)} {st : List Value}
/-- a read of one of the three tables, by a local or by 0 -/
def xTw (own : String) (ix : Nat) (nmf : String) (f : Nat → Int32) : Prop := Cond.fieldLink own ix "HammockReach" nmf "[I" ∈ TT ∧ ((nmf = "ABOVE" ∧ f = xtab1) ∨ (nmf = "SIZE_BODIES" ∧ f = xtab2) ∨ (nmf = "MARK_BODIES" ∧ f = xtab3))
theorem xTw.tab {own nmf : String} {ix : Nat} {f : Nat → Int32} {A : Nat → Prop} {U : State} (h : xTw own ix nmf f) (hT : xTab A U) : xTab1 nmf f A U := by
  rcases h.2 with ⟨rfl, rfl⟩ | ⟨rfl, rfl⟩ | ⟨rfl, rfl⟩
  · exact hT.1
  · exact hT.2.1
  · exact hT.2.2
theorem r_tabL (C : Sem cc own nm nL R g) {ix i : Nat} {jj : Fin 4} {nmf : String} {f : Nat → Int32} {x : Int32} (j : Nat) (ht : xTw own ix nmf f) (d1 : decode cc pc = .ok (.getstatic ix, 3)) (d2 : decode cc (pc + 3) = .ok (.iload_n jj, 1)) (d3 : decode cc (pc + 4) = .ok (.iaload, 1)) (hi : (jj : Nat) = i) (hl : lv[i]? = some (some (.int x))) (hx0 : x = nI j) (hj : j < 6) (kk : g k n θ (pc + 5) lv (.int (f j) :: st)) : g k n θ pc lv st := by
  obtain ⟨p, l, e, s, m, args, below, meth, c, D, A, τ, ρ0, n0, Q, ⟨hx, hb, hts, hown, hnm, hml⟩, ⟨hK, hA, hT⟩, rfl⟩ := C
  intro ρ H locs ls h1 h3 h4 h5 h6
  subst hx0
  obtain ⟨t, hZ, hT1⟩ := ht.tab hT.1
  have e1 : (nI j).toNatClampNeg = j := nI_clamp (by omega)
  refine va_gets hx hb hZ h5 hown (hts _ ht.1) (fun _ h => h) d1 ?_
  refine lv_iload_n hx hb d2 hi (h6.2.2 i _ hl) ?_
  refine va_ti hx hb hT1 h5 (vp_in_nI hj (by decide)) rfl d3 ?_
  rw [e1]
  exact kk ρ H locs ls h1 h3 h4 h5 h6
theorem r_tab0 (C : Sem cc own nm nL R g) {ix : Nat} {nmf : String} {f : Nat → Int32} (ht : xTw own ix nmf f) (d1 : decode cc pc = .ok (.getstatic ix, 3)) (d2 : decode cc (pc + 3) = .ok (.iconst 0, 1)) (d3 : decode cc (pc + 4) = .ok (.iaload, 1)) (kk : g k n θ (pc + 5) lv (.int (f 0) :: st)) : g k n θ pc lv st := by
  obtain ⟨p, l, e, s, m, args, below, meth, c, D, A, τ, ρ0, n0, Q, ⟨hx, hb, hts, hown, hnm, hml⟩, ⟨hK, hA, hT⟩, rfl⟩ := C
  intro ρ H locs ls h1 h3 h4 h5 h6
  obtain ⟨t, hZ, hT1⟩ := ht.tab hT.1
  refine va_gets hx hb hZ h5 hown (hts _ ht.1) (fun _ h => h) d1 ?_
  refine lv_iconst (v := nI 0) hx hb d2 (by decide) ?_
  refine va_ti hx hb hT1 h5 (vp_in_nI (by decide) (by decide)) rfl d3 ?_
  exact kk ρ H locs ls h1 h3 h4 h5 h6
theorem r_abs (C : Sem cc own nm nL R g) {ix : Nat} {x : Int32} (hw : Cond.methodLink own ix Lib.Math.abs.name ∈ TT ∧ Cond.static Lib.Math.abs.name ∈ TT ∧ Cond.initialized "java/lang/Math" ∈ TT ∧ Cond.code Lib.Math.abs.name Lib.Math.abs.code 1 (some .int) ∈ TT) (d : decode cc pc = .ok (.invokestatic ix, 3)) (hL : lv.length = nL) (hroom : 1 ≤ R.frames ∧ (st.map fun v => v.category).sum + 13 ≤ R.locals) (hkn : k ≤ R.cells ∧ n ≤ R.slots) (kk : g k n θ (pc + 3) lv (.int (if 0 ≤ x then x else 0 - x) :: st)) : g k n θ pc lv (.int x :: st) := by
  obtain ⟨p, l, e, s, m, args, below, meth, c, D, A, τ, ρ0, n0, Q, ⟨hx, hb, hts, hown, hnm, hml⟩, ⟨hK, hA, hT⟩, rfl⟩ := C
  intro ρ H locs ls h1 h3 h4 h5 h6
  exact va_mabs hx hb (hml.trans (h6.1.trans hL).symm) hown (hts _ hw.1) (hts _ hw.2.1) (hts _ hw.2.2.1) (hts _ hw.2.2.2) hroom.1 (by rw [xV_cats]; exact hroom.2) hkn.1 hkn.2 d (kk ρ H locs ls h1 h3 h4 h5 h6)
theorem r_copy (C : Sem cc own nm nL R g) {ix a0 a1 N0 N1 : Nat} {f0 f1 : Nat → Int32} {sp dp z : Int32} {θ' : List xE} (hw : Cond.methodLink own ix arraycopyName ∈ TT ∧ Cond.native arraycopyName ∈ TT ∧ Cond.static arraycopyName ∈ TT ∧ Cond.initialized "java/lang/System" ∈ TT) (i j q : Nat) (d : decode cc pc = .ok (.invokestatic ix, 3)) (hL : lv.length = nL) (hroom : 1 ≤ R.frames ∧ (st.map fun v => v.category).sum + (nativeFrameWords "java/lang/System" "arraycopy" 5 + 11) ≤ R.locals)
    (hθ0 : θ[a0]? = some (.inl (0, N0, .inl f0))) (hθ1 : θ[a1]? = some (.inl (0, N1, .inl f1))) (hi : sp = nI i) (hj : dp = nI j) (hq : z = nI q) (b1 : i + q ≤ N0) (b2 : j + q ≤ N1) (hs : θ.set a1 (.inl (0, N1, .inl (va_cpy f0 f1 i j q))) = θ') (kk : g k n θ' (pc + 3) lv st) (hN : N0 < 2 ^ 31 ∧ N1 < 2 ^ 31 := by decide) : g k n θ pc lv (.int z :: .int dp :: .ref a1 :: .int sp :: .ref a0 :: st) := by
  obtain ⟨p, l, e, s, m, args, below, meth, c, D, A, τ, ρ0, n0, Q, ⟨hx, hb, hts, hown, hnm, hml⟩, ⟨hK, hA, hT⟩, rfl⟩ := C
  intro ρ H locs ls h1 h3 h4 h5 h6
  subst hi; subst hj; subst hq; subst hs
  have c1 : (nI i).toNatClampNeg = i := nI_clamp (by omega)
  have c2 : (nI j).toNatClampNeg = j := nI_clamp (by omega)
  have c3 : (nI q).toNatClampNeg = q := nI_clamp (by omega)
  refine va_copyi (D := D) (cl := vwCl) (tys := xT τ) (ty := .int) hx hb (hml.trans (h6.1.trans hL).symm) hown (hts _ hw.1) (hts _ hw.2.1) (hts _ hw.2.2.1) (hts _ hw.2.2.2) hK h3 h4 h5 a0 a1 0 0 (c0 := τ 0) (c1 := τ 0) (n0 := N0) (n1 := N1) (f := f0) (g := f1) (xW_at hθ0) (xW_at hθ1) rfl rfl rfl (nI_pos (by omega)) (nI_pos (by omega)) (nI_pos (by omega)) (by rw [c1, c3]; exact b1) (by rw [c2, c3]; exact b2) (fun _ _ => rfl) hroom.1 (by rw [xV_cats]; exact hroom.2) d (fun H1 locs1 w1 w2 w3 => ?_)
  rw [c1, c2, c3] at w1 w2
  exact kk ρ H1 locs1 ls (by rw [List.length_set]; exact h1) (xW_set (ρ := ρ) (τ := τ) (θ := θ) (i := a1) ▸ w1) (xW_set (ρ := ρ) (τ := τ) (θ := θ) (i := a1) ▸ w2) w3 h6
/-- fewer locals -/
def xSub : List (Option Value) → List (Option Value) → Prop
  | [], [] => True
  | none :: a, _ :: b => xSub a b
  | some v :: a, w :: b => w = some v ∧ xSub a b
  | _, _ => False
theorem xSub_spec : ∀ (a b : List (Option Value)), xSub a b → a.length = b.length ∧ ∀ (i : Nat) (v : Value), a[i]? = some (some v) → b[i]? = some (some v)
  | [], [], _ => ⟨rfl, fun i v h => h⟩
  | [], _ :: _, h => h.elim
  | none :: a, [], h => h.elim
  | some v :: a, [], h => h.elim
  | none :: a, w :: b, h => by
    obtain ⟨h1, h2⟩ := xSub_spec a b h
    refine ⟨by simp [h1], fun i v hv => ?_⟩
    cases i with
    | zero => simp at hv
    | succ i => exact h2 i v (by simpa using hv)
  | some x :: a, w :: b, h => by
    obtain ⟨h1, h2⟩ := xSub_spec a b h.2
    refine ⟨by simp [h1], fun i v hv => ?_⟩
    cases i with
    | zero =>
      simp only [List.getElem?_cons_zero] at hv ⊢
      rw [h.1]
      exact hv
    | succ i => exact h2 i v (by simpa using hv)
theorem r_drop (C : Sem cc own nm nL R g) {lv' : List (Option Value)} (hl : xSub lv' lv) (kk : g k n θ pc lv' st) : g k n θ pc lv st := by
  obtain ⟨p, l, e, s, m, args, below, meth, c, D, A, τ, ρ0, n0, Q, ⟨hx, hb, hts, hown, hnm, hml⟩, ⟨hK, hA, hT⟩, rfl⟩ := C
  intro ρ H locs ls h1 h3 h4 h5 h6
  obtain ⟨e1, e2⟩ := xSub_spec _ _ hl
  exact kk ρ H locs ls h1 h3 h4 h5 ⟨by rw [h6.1, e1], h6.2.1, fun i v hv => h6.2.2 i v (e2 i v hv)⟩
end FW
end
section
theorem tw_0 : (Jvm.Cond.initialized "HammockReachLaw") ∈ TT := TT_mem 0 (by decide +kernel) rfl
theorem tw_1 : (Jvm.Cond.initialized "HammockReach") ∈ TT := TT_mem 1 (by decide +kernel) rfl
theorem tw_2 : (Jvm.Cond.initialized "HammockReach$Tape") ∈ TT := TT_mem 2 (by decide +kernel) rfl
theorem tw_3 : (Jvm.Cond.initialized "HammockReach$Forest") ∈ TT := TT_mem 3 (by decide +kernel) rfl
theorem tw_4 : (Jvm.Cond.initialized "HammockReach$Acts") ∈ TT := TT_mem 4 (by decide +kernel) rfl
theorem tw_5 : (Jvm.Cond.initialized "HammockReach$Outlook") ∈ TT := TT_mem 5 (by decide +kernel) rfl
theorem tw_6 : (Jvm.Cond.initialized "HammockReach$Row") ∈ TT := TT_mem 6 (by decide +kernel) rfl
theorem tw_7 : (Jvm.Cond.initialized "HammockReachModel") ∈ TT := TT_mem 7 (by decide +kernel) rfl
theorem tw_8 : (Jvm.Cond.initialized "java/lang/System") ∈ TT := TT_mem 8 (by decide +kernel) rfl
theorem tw_9 : (Jvm.Cond.initialized "java/lang/Math") ∈ TT := TT_mem 9 (by decide +kernel) rfl
theorem tw_10 : (Jvm.Cond.initialized "java/lang/Integer") ∈ TT := TT_mem 10 (by decide +kernel) rfl
theorem tw_11 : (Jvm.Cond.classLink "HammockReachLaw" (7 : Nat) "HammockReach") ∈ TT := TT_mem 11 (by decide +kernel) rfl
theorem tw_12 : (Jvm.Cond.instantiable "HammockReach" (10 : Nat)) ∈ TT := TT_mem 12 (by decide +kernel) rfl
theorem tw_13 : (Jvm.Cond.methodLink "HammockReachLaw" (9 : Nat) ({ cls := "HammockReach", name := "<init>", desc := "()V" } : Jvm.MethodName)) ∈ TT := TT_mem 13 (by decide +kernel) rfl
theorem tw_14 : (Jvm.Cond.instanceMethod ({ cls := "HammockReach", name := "<init>", desc := "()V" } : Jvm.MethodName)) ∈ TT := TT_mem 14 (by decide +kernel) rfl
theorem tw_15 : (Jvm.Cond.code ({ cls := "HammockReach", name := "<init>", desc := "()V" } : Jvm.MethodName) prog_1_method_1_code (2 : Nat) (Option.none : Option Jvm.ClassFile.FieldType)) ∈ TT := TT_mem 15 (by decide +kernel) rfl
theorem tw_16 : (Jvm.Cond.methodLink "HammockReach" (1 : Nat) ({ cls := "java/lang/Object", name := "<init>", desc := "()V" } : Jvm.MethodName)) ∈ TT := TT_mem 16 (by decide +kernel) rfl
theorem tw_17 : (Jvm.Cond.instanceMethod ({ cls := "java/lang/Object", name := "<init>", desc := "()V" } : Jvm.MethodName)) ∈ TT := TT_mem 17 (by decide +kernel) rfl
theorem tw_18 : (Jvm.Cond.code ({ cls := "java/lang/Object", name := "<init>", desc := "()V" } : Jvm.MethodName) object_method_1_code (1 : Nat) (Option.none : Option Jvm.ClassFile.FieldType)) ∈ TT := TT_mem 18 (by decide +kernel) rfl
theorem tw_19 : (Jvm.Cond.classLink "HammockReach" (9 : Nat) "HammockReach$Row") ∈ TT := TT_mem 19 (by decide +kernel) rfl
theorem tw_21 : (Jvm.Cond.classLink "HammockReach" (15 : Nat) "HammockReach$Tape") ∈ TT := TT_mem 21 (by decide +kernel) rfl
theorem tw_22 : (Jvm.Cond.instantiable "HammockReach$Tape" (4 : Nat)) ∈ TT := TT_mem 22 (by decide +kernel) rfl
theorem tw_24 : (Jvm.Cond.instanceMethod ({ cls := "HammockReach$Tape", name := "<init>", desc := "()V" } : Jvm.MethodName)) ∈ TT := TT_mem 24 (by decide +kernel) rfl
theorem tw_25 : (Jvm.Cond.code ({ cls := "HammockReach$Tape", name := "<init>", desc := "()V" } : Jvm.MethodName) prog_6_method_1_code (1 : Nat) (Option.none : Option Jvm.ClassFile.FieldType)) ∈ TT := TT_mem 25 (by decide +kernel) rfl
theorem tw_26 : (Jvm.Cond.methodLink "HammockReach$Tape" (3 : Nat) ({ cls := "java/lang/Object", name := "<init>", desc := "()V" } : Jvm.MethodName)) ∈ TT := TT_mem 26 (by decide +kernel) rfl
theorem tw_27 : (Jvm.Cond.fieldLink "HammockReach$Tape" (9 : Nat) "HammockReach$Tape" "bytes" "[I") ∈ TT := TT_mem 27 (by decide +kernel) rfl
theorem tw_28 : (Jvm.Cond.fieldLink "HammockReach" (101 : Nat) "HammockReach$Tape" "bytes" "[I") ∈ TT := TT_mem 28 (by decide +kernel) rfl
theorem tw_29 : (Jvm.Cond.fieldLink "HammockReach$Tape" (28 : Nat) "HammockReach$Tape" "length" "I") ∈ TT := TT_mem 29 (by decide +kernel) rfl
theorem tw_30 : (Jvm.Cond.fieldLink "HammockReach" (97 : Nat) "HammockReach$Tape" "length" "I") ∈ TT := TT_mem 30 (by decide +kernel) rfl
theorem tw_31 : (Jvm.Cond.fieldLink "HammockReach$Tape" (15 : Nat) "HammockReach$Tape" "at" "I") ∈ TT := TT_mem 31 (by decide +kernel) rfl
theorem tw_32 : (Jvm.Cond.fieldLink "HammockReach" (109 : Nat) "HammockReach$Tape" "at" "I") ∈ TT := TT_mem 32 (by decide +kernel) rfl
theorem tw_33 : (Jvm.Cond.fieldLink "HammockReach" (120 : Nat) "HammockReach$Tape" "fault" "I") ∈ TT := TT_mem 33 (by decide +kernel) rfl
theorem tw_34 : (Jvm.Cond.fieldLink "HammockReach$Tape" (86 : Nat) "HammockReach$Tape" "fault" "I") ∈ TT := TT_mem 34 (by decide +kernel) rfl
theorem tw_44 : (Jvm.Cond.arrayClass Jvm.ClassFile.FieldType.int) ∈ TT := TT_mem 44 (by decide +kernel) rfl
theorem tw_45 : (Jvm.Cond.classLink "HammockReach" (22 : Nat) "HammockReach$Forest") ∈ TT := TT_mem 45 (by decide +kernel) rfl
theorem tw_46 : (Jvm.Cond.instantiable "HammockReach$Forest" (11 : Nat)) ∈ TT := TT_mem 46 (by decide +kernel) rfl
theorem tw_48 : (Jvm.Cond.instanceMethod ({ cls := "HammockReach$Forest", name := "<init>", desc := "()V" } : Jvm.MethodName)) ∈ TT := TT_mem 48 (by decide +kernel) rfl
theorem tw_49 : (Jvm.Cond.code ({ cls := "HammockReach$Forest", name := "<init>", desc := "()V" } : Jvm.MethodName) prog_3_method_1_code (1 : Nat) (Option.none : Option Jvm.ClassFile.FieldType)) ∈ TT := TT_mem 49 (by decide +kernel) rfl
theorem tw_50 : (Jvm.Cond.methodLink "HammockReach$Forest" (3 : Nat) ({ cls := "java/lang/Object", name := "<init>", desc := "()V" } : Jvm.MethodName)) ∈ TT := TT_mem 50 (by decide +kernel) rfl
theorem tw_51 : (Jvm.Cond.fieldLink "HammockReach$Forest" (9 : Nat) "HammockReach$Forest" "sort" "[I") ∈ TT := TT_mem 51 (by decide +kernel) rfl
theorem tw_52 : (Jvm.Cond.fieldLink "HammockReach$Tape" (61 : Nat) "HammockReach$Forest" "sort" "[I") ∈ TT := TT_mem 52 (by decide +kernel) rfl
theorem tw_53 : (Jvm.Cond.fieldLink "HammockReach" (226 : Nat) "HammockReach$Forest" "sort" "[I") ∈ TT := TT_mem 53 (by decide +kernel) rfl
theorem tw_54 : (Jvm.Cond.fieldLink "HammockReach$Forest" (15 : Nat) "HammockReach$Forest" "low" "[I") ∈ TT := TT_mem 54 (by decide +kernel) rfl
theorem tw_55 : (Jvm.Cond.fieldLink "HammockReach$Acts" (31 : Nat) "HammockReach$Forest" "low" "[I") ∈ TT := TT_mem 55 (by decide +kernel) rfl
theorem tw_56 : (Jvm.Cond.fieldLink "HammockReach$Tape" (71 : Nat) "HammockReach$Forest" "low" "[I") ∈ TT := TT_mem 56 (by decide +kernel) rfl
theorem tw_57 : (Jvm.Cond.fieldLink "HammockReach" (141 : Nat) "HammockReach$Forest" "low" "[I") ∈ TT := TT_mem 57 (by decide +kernel) rfl
theorem tw_58 : (Jvm.Cond.fieldLink "HammockReach$Forest" (18 : Nat) "HammockReach$Forest" "top" "[I") ∈ TT := TT_mem 58 (by decide +kernel) rfl
theorem tw_59 : (Jvm.Cond.fieldLink "HammockReach$Acts" (36 : Nat) "HammockReach$Forest" "top" "[I") ∈ TT := TT_mem 59 (by decide +kernel) rfl
theorem tw_60 : (Jvm.Cond.fieldLink "HammockReach$Tape" (74 : Nat) "HammockReach$Forest" "top" "[I") ∈ TT := TT_mem 60 (by decide +kernel) rfl
theorem tw_61 : (Jvm.Cond.fieldLink "HammockReach" (144 : Nat) "HammockReach$Forest" "top" "[I") ∈ TT := TT_mem 61 (by decide +kernel) rfl
theorem tw_62 : (Jvm.Cond.fieldLink "HammockReach$Forest" (21 : Nat) "HammockReach$Forest" "weight" "[I") ∈ TT := TT_mem 62 (by decide +kernel) rfl
theorem tw_63 : (Jvm.Cond.fieldLink "HammockReach$Acts" (39 : Nat) "HammockReach$Forest" "weight" "[I") ∈ TT := TT_mem 63 (by decide +kernel) rfl
theorem tw_64 : (Jvm.Cond.fieldLink "HammockReach$Tape" (77 : Nat) "HammockReach$Forest" "weight" "[I") ∈ TT := TT_mem 64 (by decide +kernel) rfl
theorem tw_65 : (Jvm.Cond.fieldLink "HammockReach" (151 : Nat) "HammockReach$Forest" "weight" "[I") ∈ TT := TT_mem 65 (by decide +kernel) rfl
theorem tw_66 : (Jvm.Cond.fieldLink "HammockReach$Forest" (24 : Nat) "HammockReach$Forest" "swing" "[I") ∈ TT := TT_mem 66 (by decide +kernel) rfl
theorem tw_67 : (Jvm.Cond.fieldLink "HammockReach$Tape" (80 : Nat) "HammockReach$Forest" "swing" "[I") ∈ TT := TT_mem 67 (by decide +kernel) rfl
theorem tw_68 : (Jvm.Cond.fieldLink "HammockReach" (169 : Nat) "HammockReach$Forest" "swing" "[I") ∈ TT := TT_mem 68 (by decide +kernel) rfl
theorem tw_69 : (Jvm.Cond.fieldLink "HammockReach$Forest" (27 : Nat) "HammockReach$Forest" "stands" "Z") ∈ TT := TT_mem 69 (by decide +kernel) rfl
theorem tw_70 : (Jvm.Cond.fieldLink "HammockReach" (123 : Nat) "HammockReach$Forest" "stands" "Z") ∈ TT := TT_mem 70 (by decide +kernel) rfl
theorem tw_71 : (Jvm.Cond.fieldLink "HammockReach$Tape" (42 : Nat) "HammockReach$Forest" "high" "I") ∈ TT := TT_mem 71 (by decide +kernel) rfl
theorem tw_72 : (Jvm.Cond.fieldLink "HammockReach$Forest" (47 : Nat) "HammockReach$Forest" "high" "I") ∈ TT := TT_mem 72 (by decide +kernel) rfl
theorem tw_73 : (Jvm.Cond.fieldLink "HammockReach" (242 : Nat) "HammockReach$Forest" "high" "I") ∈ TT := TT_mem 73 (by decide +kernel) rfl
theorem tw_74 : (Jvm.Cond.fieldLink "HammockReach$Tape" (45 : Nat) "HammockReach$Forest" "arm" "I") ∈ TT := TT_mem 74 (by decide +kernel) rfl
theorem tw_75 : (Jvm.Cond.fieldLink "HammockReach$Forest" (50 : Nat) "HammockReach$Forest" "arm" "I") ∈ TT := TT_mem 75 (by decide +kernel) rfl
theorem tw_76 : (Jvm.Cond.fieldLink "HammockReach" (245 : Nat) "HammockReach$Forest" "arm" "I") ∈ TT := TT_mem 76 (by decide +kernel) rfl
theorem tw_77 : (Jvm.Cond.fieldLink "HammockReach$Forest" (31 : Nat) "HammockReach$Forest" "minute" "I") ∈ TT := TT_mem 77 (by decide +kernel) rfl
theorem tw_78 : (Jvm.Cond.fieldLink "HammockReach$Outlook" (28 : Nat) "HammockReach$Forest" "minute" "I") ∈ TT := TT_mem 78 (by decide +kernel) rfl
theorem tw_79 : (Jvm.Cond.fieldLink "HammockReach$Acts" (45 : Nat) "HammockReach$Forest" "minute" "I") ∈ TT := TT_mem 79 (by decide +kernel) rfl
theorem tw_80 : (Jvm.Cond.fieldLink "HammockReach" (128 : Nat) "HammockReach$Forest" "minute" "I") ∈ TT := TT_mem 80 (by decide +kernel) rfl
theorem tw_81 : (Jvm.Cond.fieldLink "HammockReach$Outlook" (21 : Nat) "HammockReach$Forest" "size" "I") ∈ TT := TT_mem 81 (by decide +kernel) rfl
theorem tw_82 : (Jvm.Cond.fieldLink "HammockReach$Forest" (35 : Nat) "HammockReach$Forest" "size" "I") ∈ TT := TT_mem 82 (by decide +kernel) rfl
theorem tw_83 : (Jvm.Cond.fieldLink "HammockReach$Tape" (48 : Nat) "HammockReach$Forest" "size" "I") ∈ TT := TT_mem 83 (by decide +kernel) rfl
theorem tw_84 : (Jvm.Cond.fieldLink "HammockReach" (119 : Nat) "HammockReach$Forest" "size" "I") ∈ TT := TT_mem 84 (by decide +kernel) rfl
theorem tw_85 : (Jvm.Cond.fieldLink "HammockReach$Forest" (38 : Nat) "HammockReach$Forest" "cut" "I") ∈ TT := TT_mem 85 (by decide +kernel) rfl
theorem tw_86 : (Jvm.Cond.fieldLink "HammockReach$Acts" (42 : Nat) "HammockReach$Forest" "cut" "I") ∈ TT := TT_mem 86 (by decide +kernel) rfl
theorem tw_87 : (Jvm.Cond.fieldLink "HammockReach" (160 : Nat) "HammockReach$Forest" "cut" "I") ∈ TT := TT_mem 87 (by decide +kernel) rfl
theorem tw_112 : (Jvm.Cond.classLink "HammockReach" (36 : Nat) "HammockReach$Acts") ∈ TT := TT_mem 112 (by decide +kernel) rfl
theorem tw_113 : (Jvm.Cond.instantiable "HammockReach$Acts" (6 : Nat)) ∈ TT := TT_mem 113 (by decide +kernel) rfl
theorem tw_115 : (Jvm.Cond.instanceMethod ({ cls := "HammockReach$Acts", name := "<init>", desc := "()V" } : Jvm.MethodName)) ∈ TT := TT_mem 115 (by decide +kernel) rfl
theorem tw_116 : (Jvm.Cond.code ({ cls := "HammockReach$Acts", name := "<init>", desc := "()V" } : Jvm.MethodName) prog_2_method_1_code (1 : Nat) (Option.none : Option Jvm.ClassFile.FieldType)) ∈ TT := TT_mem 116 (by decide +kernel) rfl
theorem tw_117 : (Jvm.Cond.methodLink "HammockReach$Acts" (3 : Nat) ({ cls := "java/lang/Object", name := "<init>", desc := "()V" } : Jvm.MethodName)) ∈ TT := TT_mem 117 (by decide +kernel) rfl
theorem tw_118 : (Jvm.Cond.fieldLink "HammockReach$Acts" (9 : Nat) "HammockReach$Acts" "what" "[I") ∈ TT := TT_mem 118 (by decide +kernel) rfl
theorem tw_119 : (Jvm.Cond.fieldLink "HammockReach$Acts" (15 : Nat) "HammockReach$Acts" "whose" "[I") ∈ TT := TT_mem 119 (by decide +kernel) rfl
theorem tw_120 : (Jvm.Cond.fieldLink "HammockReach$Acts" (18 : Nat) "HammockReach$Acts" "before" "[I") ∈ TT := TT_mem 120 (by decide +kernel) rfl
theorem tw_121 : (Jvm.Cond.fieldLink "HammockReach$Acts" (21 : Nat) "HammockReach$Acts" "beforeToo" "[I") ∈ TT := TT_mem 121 (by decide +kernel) rfl
theorem tw_122 : (Jvm.Cond.fieldLink "HammockReach$Acts" (28 : Nat) "HammockReach$Acts" "oldest" "I") ∈ TT := TT_mem 122 (by decide +kernel) rfl
theorem tw_123 : (Jvm.Cond.fieldLink "HammockReach$Acts" (24 : Nat) "HammockReach$Acts" "kept" "I") ∈ TT := TT_mem 123 (by decide +kernel) rfl
theorem tw_124 : (Jvm.Cond.fieldLink "HammockReach" (163 : Nat) "HammockReach$Acts" "kept" "I") ∈ TT := TT_mem 124 (by decide +kernel) rfl
theorem tw_138 : (Jvm.Cond.classLink "HammockReach" (43 : Nat) "HammockReach$Outlook") ∈ TT := TT_mem 138 (by decide +kernel) rfl
theorem tw_139 : (Jvm.Cond.instantiable "HammockReach$Outlook" (4 : Nat)) ∈ TT := TT_mem 139 (by decide +kernel) rfl
theorem tw_141 : (Jvm.Cond.instanceMethod ({ cls := "HammockReach$Outlook", name := "<init>", desc := "()V" } : Jvm.MethodName)) ∈ TT := TT_mem 141 (by decide +kernel) rfl
theorem tw_142 : (Jvm.Cond.code ({ cls := "HammockReach$Outlook", name := "<init>", desc := "()V" } : Jvm.MethodName) prog_4_method_1_code (1 : Nat) (Option.none : Option Jvm.ClassFile.FieldType)) ∈ TT := TT_mem 142 (by decide +kernel) rfl
theorem tw_143 : (Jvm.Cond.methodLink "HammockReach$Outlook" (3 : Nat) ({ cls := "java/lang/Object", name := "<init>", desc := "()V" } : Jvm.MethodName)) ∈ TT := TT_mem 143 (by decide +kernel) rfl
theorem tw_144 : (Jvm.Cond.fieldLink "HammockReach$Outlook" (9 : Nat) "HammockReach$Outlook" "spots" "[I") ∈ TT := TT_mem 144 (by decide +kernel) rfl
theorem tw_145 : (Jvm.Cond.fieldLink "HammockReach$Outlook" (15 : Nat) "HammockReach$Outlook" "near" "[I") ∈ TT := TT_mem 145 (by decide +kernel) rfl
theorem tw_146 : (Jvm.Cond.fieldLink "HammockReach$Outlook" (18 : Nat) "HammockReach$Outlook" "within" "[I") ∈ TT := TT_mem 146 (by decide +kernel) rfl
theorem tw_147 : (Jvm.Cond.fieldLink "HammockReach$Outlook" (27 : Nat) "HammockReach$Outlook" "size" "I") ∈ TT := TT_mem 147 (by decide +kernel) rfl
theorem tw_157 : (Jvm.Cond.instantiable "HammockReach$Row" (3 : Nat)) ∈ TT := TT_mem 157 (by decide +kernel) rfl
theorem tw_159 : (Jvm.Cond.instanceMethod ({ cls := "HammockReach$Row", name := "<init>", desc := "()V" } : Jvm.MethodName)) ∈ TT := TT_mem 159 (by decide +kernel) rfl
theorem tw_160 : (Jvm.Cond.code ({ cls := "HammockReach$Row", name := "<init>", desc := "()V" } : Jvm.MethodName) prog_5_method_1_code (1 : Nat) (Option.none : Option Jvm.ClassFile.FieldType)) ∈ TT := TT_mem 160 (by decide +kernel) rfl
theorem tw_161 : (Jvm.Cond.methodLink "HammockReach$Row" (3 : Nat) ({ cls := "java/lang/Object", name := "<init>", desc := "()V" } : Jvm.MethodName)) ∈ TT := TT_mem 161 (by decide +kernel) rfl
theorem tw_162 : (Jvm.Cond.fieldLink "HammockReach$Row" (9 : Nat) "HammockReach$Row" "items" "[I") ∈ TT := TT_mem 162 (by decide +kernel) rfl
theorem tw_163 : (Jvm.Cond.fieldLink "HammockReach" (82 : Nat) "HammockReach$Row" "items" "[I") ∈ TT := TT_mem 163 (by decide +kernel) rfl
theorem tw_164 : (Jvm.Cond.fieldLink "HammockReach$Row" (15 : Nat) "HammockReach$Row" "lane" "I") ∈ TT := TT_mem 164 (by decide +kernel) rfl
theorem tw_165 : (Jvm.Cond.fieldLink "HammockReach" (76 : Nat) "HammockReach$Row" "lane" "I") ∈ TT := TT_mem 165 (by decide +kernel) rfl
theorem tw_166 : (Jvm.Cond.fieldLink "HammockReach$Row" (19 : Nat) "HammockReach$Row" "size" "I") ∈ TT := TT_mem 166 (by decide +kernel) rfl
theorem tw_167 : (Jvm.Cond.fieldLink "HammockReach" (79 : Nat) "HammockReach$Row" "size" "I") ∈ TT := TT_mem 167 (by decide +kernel) rfl
theorem tw_175 : (Jvm.Cond.fieldLink "HammockReach" (11 : Nat) "HammockReach" "rows" "[LHammockReach$Row;") ∈ TT := TT_mem 175 (by decide +kernel) rfl
theorem tw_176 : (Jvm.Cond.fieldLink "HammockReach" (18 : Nat) "HammockReach" "tape" "LHammockReach$Tape;") ∈ TT := TT_mem 176 (by decide +kernel) rfl
theorem tw_177 : (Jvm.Cond.fieldLink "HammockReach" (25 : Nat) "HammockReach" "now" "LHammockReach$Forest;") ∈ TT := TT_mem 177 (by decide +kernel) rfl
theorem tw_178 : (Jvm.Cond.fieldLink "HammockReach" (29 : Nat) "HammockReach" "trial" "LHammockReach$Forest;") ∈ TT := TT_mem 178 (by decide +kernel) rfl
theorem tw_179 : (Jvm.Cond.fieldLink "HammockReach" (32 : Nat) "HammockReach" "images" "[LHammockReach$Forest;") ∈ TT := TT_mem 179 (by decide +kernel) rfl
theorem tw_180 : (Jvm.Cond.fieldLink "HammockReach" (39 : Nat) "HammockReach" "acts" "LHammockReach$Acts;") ∈ TT := TT_mem 180 (by decide +kernel) rfl
theorem tw_181 : (Jvm.Cond.fieldLink "HammockReach" (46 : Nat) "HammockReach" "outlook" "LHammockReach$Outlook;") ∈ TT := TT_mem 181 (by decide +kernel) rfl
theorem tw_182 : (Jvm.Cond.fieldLink "HammockReach" (50 : Nat) "HammockReach" "traced" "[I") ∈ TT := TT_mem 182 (by decide +kernel) rfl
theorem tw_183 : (Jvm.Cond.fieldLink "HammockReach" (232 : Nat) "HammockReach" "tracedCount" "I") ∈ TT := TT_mem 183 (by decide +kernel) rfl
theorem tw_184 : (Jvm.Cond.fieldLink "HammockReach" (68 : Nat) "HammockReach" "finding" "I") ∈ TT := TT_mem 184 (by decide +kernel) rfl
theorem tw_206 : (Jvm.Cond.methodLink "HammockReachLaw" (13 : Nat) ({ cls := "HammockReach", name := "row", desc := "(III)I" } : Jvm.MethodName)) ∈ TT := TT_mem 206 (by decide +kernel) rfl
theorem tw_207 : (Jvm.Cond.instanceMethod ({ cls := "HammockReach", name := "row", desc := "(III)I" } : Jvm.MethodName)) ∈ TT := TT_mem 207 (by decide +kernel) rfl
theorem tw_208 : (Jvm.Cond.selects "HammockReach" ({ cls := "HammockReach", name := "row", desc := "(III)I" } : Jvm.MethodName) ({ cls := "HammockReach", name := "row", desc := "(III)I" } : Jvm.MethodName)) ∈ TT := TT_mem 208 (by decide +kernel) rfl
theorem tw_209 : (Jvm.Cond.code ({ cls := "HammockReach", name := "row", desc := "(III)I" } : Jvm.MethodName) prog_1_method_2_code (4 : Nat) (Option.some Jvm.ClassFile.FieldType.int)) ∈ TT := TT_mem 209 (by decide +kernel) rfl
theorem tw_210 : (Jvm.Cond.methodLink "HammockReach" (55 : Nat) ({ cls := "HammockReach", name := "isRow", desc := "(I)Z" } : Jvm.MethodName)) ∈ TT := TT_mem 210 (by decide +kernel) rfl
theorem tw_211 : (Jvm.Cond.static ({ cls := "HammockReach", name := "isRow", desc := "(I)Z" } : Jvm.MethodName)) ∈ TT := TT_mem 211 (by decide +kernel) rfl
theorem tw_212 : (Jvm.Cond.code ({ cls := "HammockReach", name := "isRow", desc := "(I)Z" } : Jvm.MethodName) prog_1_method_35_code (1 : Nat) (Option.some Jvm.ClassFile.FieldType.boolean)) ∈ TT := TT_mem 212 (by decide +kernel) rfl
theorem tw_213 : (Jvm.Cond.methodLink "HammockReach" (59 : Nat) ({ cls := "HammockReach", name := "isBelow", desc := "(II)Z" } : Jvm.MethodName)) ∈ TT := TT_mem 213 (by decide +kernel) rfl
theorem tw_214 : (Jvm.Cond.static ({ cls := "HammockReach", name := "isBelow", desc := "(II)Z" } : Jvm.MethodName)) ∈ TT := TT_mem 214 (by decide +kernel) rfl
theorem tw_215 : (Jvm.Cond.code ({ cls := "HammockReach", name := "isBelow", desc := "(II)Z" } : Jvm.MethodName) prog_1_method_34_code (2 : Nat) (Option.some Jvm.ClassFile.FieldType.boolean)) ∈ TT := TT_mem 215 (by decide +kernel) rfl
theorem tw_216 : (Jvm.Cond.constant "HammockReach" (63 : Nat) (-1000001 : Int32)) ∈ TT := TT_mem 216 (by decide +kernel) rfl
theorem tw_217 : (Jvm.Cond.methodLink "HammockReach" (64 : Nat) ({ cls := "HammockReach", name := "finds", desc := "(I)I" } : Jvm.MethodName)) ∈ TT := TT_mem 217 (by decide +kernel) rfl
theorem tw_219 : (Jvm.Cond.instanceMethod ({ cls := "HammockReach", name := "finds", desc := "(I)I" } : Jvm.MethodName)) ∈ TT := TT_mem 219 (by decide +kernel) rfl
theorem tw_220 : (Jvm.Cond.code ({ cls := "HammockReach", name := "finds", desc := "(I)I" } : Jvm.MethodName) prog_1_method_39_code (2 : Nat) (Option.some Jvm.ClassFile.FieldType.int)) ∈ TT := TT_mem 220 (by decide +kernel) rfl
theorem tw_221 : (Jvm.Cond.constant "HammockReach" (253 : Nat) (-1000010 : Int32)) ∈ TT := TT_mem 221 (by decide +kernel) rfl
theorem tw_222 : (Jvm.Cond.methodLink "HammockReach" (72 : Nat) ({ cls := "HammockReach$Row", name := "begin", desc := "(II)V" } : Jvm.MethodName)) ∈ TT := TT_mem 222 (by decide +kernel) rfl
theorem tw_223 : (Jvm.Cond.instanceMethod ({ cls := "HammockReach$Row", name := "begin", desc := "(II)V" } : Jvm.MethodName)) ∈ TT := TT_mem 223 (by decide +kernel) rfl
theorem tw_224 : (Jvm.Cond.selects "HammockReach$Row" ({ cls := "HammockReach$Row", name := "begin", desc := "(II)V" } : Jvm.MethodName) ({ cls := "HammockReach$Row", name := "begin", desc := "(II)V" } : Jvm.MethodName)) ∈ TT := TT_mem 224 (by decide +kernel) rfl
theorem tw_225 : (Jvm.Cond.code ({ cls := "HammockReach$Row", name := "begin", desc := "(II)V" } : Jvm.MethodName) prog_5_method_2_code (4 : Nat) (Option.none : Option Jvm.ClassFile.FieldType)) ∈ TT := TT_mem 225 (by decide +kernel) rfl
theorem tw_226 : (Jvm.Cond.methodLink "HammockReachLaw" (18 : Nat) ({ cls := "HammockReach", name := "set", desc := "(III)I" } : Jvm.MethodName)) ∈ TT := TT_mem 226 (by decide +kernel) rfl
theorem tw_227 : (Jvm.Cond.instanceMethod ({ cls := "HammockReach", name := "set", desc := "(III)I" } : Jvm.MethodName)) ∈ TT := TT_mem 227 (by decide +kernel) rfl
theorem tw_228 : (Jvm.Cond.selects "HammockReach" ({ cls := "HammockReach", name := "set", desc := "(III)I" } : Jvm.MethodName) ({ cls := "HammockReach", name := "set", desc := "(III)I" } : Jvm.MethodName)) ∈ TT := TT_mem 228 (by decide +kernel) rfl
theorem tw_229 : (Jvm.Cond.code ({ cls := "HammockReach", name := "set", desc := "(III)I" } : Jvm.MethodName) prog_1_method_3_code (5 : Nat) (Option.some Jvm.ClassFile.FieldType.int)) ∈ TT := TT_mem 229 (by decide +kernel) rfl
theorem tw_230 : (Jvm.Cond.methodLink "HammockReach" (85 : Nat) ({ cls := "HammockReach$Row", name := "narrowed", desc := "(I)I" } : Jvm.MethodName)) ∈ TT := TT_mem 230 (by decide +kernel) rfl
theorem tw_231 : (Jvm.Cond.instanceMethod ({ cls := "HammockReach$Row", name := "narrowed", desc := "(I)I" } : Jvm.MethodName)) ∈ TT := TT_mem 231 (by decide +kernel) rfl
theorem tw_232 : (Jvm.Cond.selects "HammockReach$Row" ({ cls := "HammockReach$Row", name := "narrowed", desc := "(I)I" } : Jvm.MethodName) ({ cls := "HammockReach$Row", name := "narrowed", desc := "(I)I" } : Jvm.MethodName)) ∈ TT := TT_mem 232 (by decide +kernel) rfl
theorem tw_233 : (Jvm.Cond.code ({ cls := "HammockReach$Row", name := "narrowed", desc := "(I)I" } : Jvm.MethodName) prog_5_method_3_code (2 : Nat) (Option.some Jvm.ClassFile.FieldType.int)) ∈ TT := TT_mem 233 (by decide +kernel) rfl
theorem tw_234 : (Jvm.Cond.methodLink "HammockReachLaw" (22 : Nat) ({ cls := "HammockReach", name := "copy", desc := "(IIIII)I" } : Jvm.MethodName)) ∈ TT := TT_mem 234 (by decide +kernel) rfl
theorem tw_235 : (Jvm.Cond.instanceMethod ({ cls := "HammockReach", name := "copy", desc := "(IIIII)I" } : Jvm.MethodName)) ∈ TT := TT_mem 235 (by decide +kernel) rfl
theorem tw_236 : (Jvm.Cond.selects "HammockReach" ({ cls := "HammockReach", name := "copy", desc := "(IIIII)I" } : Jvm.MethodName) ({ cls := "HammockReach", name := "copy", desc := "(IIIII)I" } : Jvm.MethodName)) ∈ TT := TT_mem 236 (by decide +kernel) rfl
theorem tw_237 : (Jvm.Cond.code ({ cls := "HammockReach", name := "copy", desc := "(IIIII)I" } : Jvm.MethodName) prog_1_method_4_code (8 : Nat) (Option.some Jvm.ClassFile.FieldType.int)) ∈ TT := TT_mem 237 (by decide +kernel) rfl
theorem tw_238 : (Jvm.Cond.methodLink "HammockReach" (88 : Nat) ({ cls := "HammockReach$Row", name := "hasSpan", desc := "(II)Z" } : Jvm.MethodName)) ∈ TT := TT_mem 238 (by decide +kernel) rfl
theorem tw_239 : (Jvm.Cond.instanceMethod ({ cls := "HammockReach$Row", name := "hasSpan", desc := "(II)Z" } : Jvm.MethodName)) ∈ TT := TT_mem 239 (by decide +kernel) rfl
theorem tw_240 : (Jvm.Cond.selects "HammockReach$Row" ({ cls := "HammockReach$Row", name := "hasSpan", desc := "(II)Z" } : Jvm.MethodName) ({ cls := "HammockReach$Row", name := "hasSpan", desc := "(II)Z" } : Jvm.MethodName)) ∈ TT := TT_mem 240 (by decide +kernel) rfl
theorem tw_241 : (Jvm.Cond.code ({ cls := "HammockReach$Row", name := "hasSpan", desc := "(II)Z" } : Jvm.MethodName) prog_5_method_4_code (3 : Nat) (Option.some Jvm.ClassFile.FieldType.boolean)) ∈ TT := TT_mem 241 (by decide +kernel) rfl
theorem tw_242 : (Jvm.Cond.methodLink "HammockReach" (91 : Nat) ({ cls := "java/lang/System", name := "arraycopy", desc := "(Ljava/lang/Object;ILjava/lang/Object;II)V" } : Jvm.MethodName)) ∈ TT := TT_mem 242 (by decide +kernel) rfl
theorem tw_243 : (Jvm.Cond.static ({ cls := "java/lang/System", name := "arraycopy", desc := "(Ljava/lang/Object;ILjava/lang/Object;II)V" } : Jvm.MethodName)) ∈ TT := TT_mem 243 (by decide +kernel) rfl
theorem tw_244 : (Jvm.Cond.native ({ cls := "java/lang/System", name := "arraycopy", desc := "(Ljava/lang/Object;ILjava/lang/Object;II)V" } : Jvm.MethodName)) ∈ TT := TT_mem 244 (by decide +kernel) rfl
theorem tw_245 : (Jvm.Cond.methodLink "HammockReachLaw" (27 : Nat) ({ cls := "HammockReach", name := "drop", desc := "(I)I" } : Jvm.MethodName)) ∈ TT := TT_mem 245 (by decide +kernel) rfl
theorem tw_246 : (Jvm.Cond.instanceMethod ({ cls := "HammockReach", name := "drop", desc := "(I)I" } : Jvm.MethodName)) ∈ TT := TT_mem 246 (by decide +kernel) rfl
theorem tw_247 : (Jvm.Cond.selects "HammockReach" ({ cls := "HammockReach", name := "drop", desc := "(I)I" } : Jvm.MethodName) ({ cls := "HammockReach", name := "drop", desc := "(I)I" } : Jvm.MethodName)) ∈ TT := TT_mem 247 (by decide +kernel) rfl
theorem tw_248 : (Jvm.Cond.code ({ cls := "HammockReach", name := "drop", desc := "(I)I" } : Jvm.MethodName) prog_1_method_5_code (3 : Nat) (Option.some Jvm.ClassFile.FieldType.int)) ∈ TT := TT_mem 248 (by decide +kernel) rfl
theorem tw_249 : (Jvm.Cond.methodLink "HammockReachLaw" (32 : Nat) ({ cls := "HammockReach", name := "feed", desc := "(I)I" } : Jvm.MethodName)) ∈ TT := TT_mem 249 (by decide +kernel) rfl
theorem tw_250 : (Jvm.Cond.instanceMethod ({ cls := "HammockReach", name := "feed", desc := "(I)I" } : Jvm.MethodName)) ∈ TT := TT_mem 250 (by decide +kernel) rfl
theorem tw_251 : (Jvm.Cond.selects "HammockReach" ({ cls := "HammockReach", name := "feed", desc := "(I)I" } : Jvm.MethodName) ({ cls := "HammockReach", name := "feed", desc := "(I)I" } : Jvm.MethodName)) ∈ TT := TT_mem 251 (by decide +kernel) rfl
theorem tw_252 : (Jvm.Cond.code ({ cls := "HammockReach", name := "feed", desc := "(I)I" } : Jvm.MethodName) prog_1_method_6_code (2 : Nat) (Option.some Jvm.ClassFile.FieldType.int)) ∈ TT := TT_mem 252 (by decide +kernel) rfl
theorem tw_253 : (Jvm.Cond.constant "HammockReach" (100 : Nat) (-1000003 : Int32)) ∈ TT := TT_mem 253 (by decide +kernel) rfl
theorem tw_254 : (Jvm.Cond.methodLink "HammockReachLaw" (36 : Nat) ({ cls := "HammockReach", name := "forest", desc := "()I" } : Jvm.MethodName)) ∈ TT := TT_mem 254 (by decide +kernel) rfl
theorem tw_255 : (Jvm.Cond.instanceMethod ({ cls := "HammockReach", name := "forest", desc := "()I" } : Jvm.MethodName)) ∈ TT := TT_mem 255 (by decide +kernel) rfl
theorem tw_256 : (Jvm.Cond.selects "HammockReach" ({ cls := "HammockReach", name := "forest", desc := "()I" } : Jvm.MethodName) ({ cls := "HammockReach", name := "forest", desc := "()I" } : Jvm.MethodName)) ∈ TT := TT_mem 256 (by decide +kernel) rfl
theorem tw_257 : (Jvm.Cond.code ({ cls := "HammockReach", name := "forest", desc := "()I" } : Jvm.MethodName) prog_1_method_7_code (2 : Nat) (Option.some Jvm.ClassFile.FieldType.int)) ∈ TT := TT_mem 257 (by decide +kernel) rfl
theorem tw_258 : (Jvm.Cond.methodLink "HammockReach" (104 : Nat) ({ cls := "HammockReach$Tape", name := "readInto", desc := "(LHammockReach$Forest;)Z" } : Jvm.MethodName)) ∈ TT := TT_mem 258 (by decide +kernel) rfl
theorem tw_259 : (Jvm.Cond.instanceMethod ({ cls := "HammockReach$Tape", name := "readInto", desc := "(LHammockReach$Forest;)Z" } : Jvm.MethodName)) ∈ TT := TT_mem 259 (by decide +kernel) rfl
theorem tw_260 : (Jvm.Cond.selects "HammockReach$Tape" ({ cls := "HammockReach$Tape", name := "readInto", desc := "(LHammockReach$Forest;)Z" } : Jvm.MethodName) ({ cls := "HammockReach$Tape", name := "readInto", desc := "(LHammockReach$Forest;)Z" } : Jvm.MethodName)) ∈ TT := TT_mem 260 (by decide +kernel) rfl
theorem tw_261 : (Jvm.Cond.code ({ cls := "HammockReach$Tape", name := "readInto", desc := "(LHammockReach$Forest;)Z" } : Jvm.MethodName) prog_6_method_2_code (3 : Nat) (Option.some Jvm.ClassFile.FieldType.boolean)) ∈ TT := TT_mem 261 (by decide +kernel) rfl
theorem tw_262 : (Jvm.Cond.methodLink "HammockReach$Tape" (19 : Nat) ({ cls := "HammockReach$Forest", name := "begin", desc := "()V" } : Jvm.MethodName)) ∈ TT := TT_mem 262 (by decide +kernel) rfl
theorem tw_263 : (Jvm.Cond.instanceMethod ({ cls := "HammockReach$Forest", name := "begin", desc := "()V" } : Jvm.MethodName)) ∈ TT := TT_mem 263 (by decide +kernel) rfl
theorem tw_264 : (Jvm.Cond.selects "HammockReach$Forest" ({ cls := "HammockReach$Forest", name := "begin", desc := "()V" } : Jvm.MethodName) ({ cls := "HammockReach$Forest", name := "begin", desc := "()V" } : Jvm.MethodName)) ∈ TT := TT_mem 264 (by decide +kernel) rfl
theorem tw_265 : (Jvm.Cond.code ({ cls := "HammockReach$Forest", name := "begin", desc := "()V" } : Jvm.MethodName) prog_3_method_2_code (1 : Nat) (Option.none : Option Jvm.ClassFile.FieldType)) ∈ TT := TT_mem 265 (by decide +kernel) rfl
theorem tw_266 : (Jvm.Cond.methodLink "HammockReach$Tape" (24 : Nat) ({ cls := "HammockReach$Tape", name := "readLaw", desc := "(LHammockReach$Forest;)Z" } : Jvm.MethodName)) ∈ TT := TT_mem 266 (by decide +kernel) rfl
theorem tw_268 : (Jvm.Cond.instanceMethod ({ cls := "HammockReach$Tape", name := "readLaw", desc := "(LHammockReach$Forest;)Z" } : Jvm.MethodName)) ∈ TT := TT_mem 268 (by decide +kernel) rfl
theorem tw_269 : (Jvm.Cond.code ({ cls := "HammockReach$Tape", name := "readLaw", desc := "(LHammockReach$Forest;)Z" } : Jvm.MethodName) prog_6_method_3_code (2 : Nat) (Option.some Jvm.ClassFile.FieldType.boolean)) ∈ TT := TT_mem 269 (by decide +kernel) rfl
theorem tw_270 : (Jvm.Cond.methodLink "HammockReach$Tape" (34 : Nat) ({ cls := "HammockReach$Tape", name := "readSign", desc := "(I)Z" } : Jvm.MethodName)) ∈ TT := TT_mem 270 (by decide +kernel) rfl
theorem tw_272 : (Jvm.Cond.instanceMethod ({ cls := "HammockReach$Tape", name := "readSign", desc := "(I)Z" } : Jvm.MethodName)) ∈ TT := TT_mem 272 (by decide +kernel) rfl
theorem tw_273 : (Jvm.Cond.code ({ cls := "HammockReach$Tape", name := "readSign", desc := "(I)Z" } : Jvm.MethodName) prog_6_method_7_code (2 : Nat) (Option.some Jvm.ClassFile.FieldType.boolean)) ∈ TT := TT_mem 273 (by decide +kernel) rfl
theorem tw_274 : (Jvm.Cond.methodLink "HammockReach$Tape" (51 : Nat) ({ cls := "HammockReach$Tape", name := "byteAt", desc := "(I)I" } : Jvm.MethodName)) ∈ TT := TT_mem 274 (by decide +kernel) rfl
theorem tw_276 : (Jvm.Cond.instanceMethod ({ cls := "HammockReach$Tape", name := "byteAt", desc := "(I)I" } : Jvm.MethodName)) ∈ TT := TT_mem 276 (by decide +kernel) rfl
theorem tw_277 : (Jvm.Cond.code ({ cls := "HammockReach$Tape", name := "byteAt", desc := "(I)I" } : Jvm.MethodName) prog_6_method_10_code (2 : Nat) (Option.some Jvm.ClassFile.FieldType.int)) ∈ TT := TT_mem 277 (by decide +kernel) rfl
theorem tw_279 : (Jvm.Cond.methodLink "HammockReach$Tape" (58 : Nat) ({ cls := "HammockReach$Tape", name := "refuse", desc := "(I)Z" } : Jvm.MethodName)) ∈ TT := TT_mem 279 (by decide +kernel) rfl
theorem tw_281 : (Jvm.Cond.instanceMethod ({ cls := "HammockReach$Tape", name := "refuse", desc := "(I)Z" } : Jvm.MethodName)) ∈ TT := TT_mem 281 (by decide +kernel) rfl
theorem tw_282 : (Jvm.Cond.code ({ cls := "HammockReach$Tape", name := "refuse", desc := "(I)Z" } : Jvm.MethodName) prog_6_method_9_code (2 : Nat) (Option.some Jvm.ClassFile.FieldType.boolean)) ∈ TT := TT_mem 282 (by decide +kernel) rfl
theorem tw_283 : (Jvm.Cond.methodLink "HammockReach$Tape" (38 : Nat) ({ cls := "HammockReach$Tape", name := "readNumber", desc := "(II)I" } : Jvm.MethodName)) ∈ TT := TT_mem 283 (by decide +kernel) rfl
theorem tw_285 : (Jvm.Cond.instanceMethod ({ cls := "HammockReach$Tape", name := "readNumber", desc := "(II)I" } : Jvm.MethodName)) ∈ TT := TT_mem 285 (by decide +kernel) rfl
theorem tw_286 : (Jvm.Cond.code ({ cls := "HammockReach$Tape", name := "readNumber", desc := "(II)I" } : Jvm.MethodName) prog_6_method_8_code (6 : Nat) (Option.some Jvm.ClassFile.FieldType.int)) ∈ TT := TT_mem 286 (by decide +kernel) rfl
theorem tw_287 : (Jvm.Cond.methodLink "HammockReach$Tape" (83 : Nat) ({ cls := "HammockReach$Tape", name := "isFigure", desc := "(I)Z" } : Jvm.MethodName)) ∈ TT := TT_mem 287 (by decide +kernel) rfl
theorem tw_288 : (Jvm.Cond.static ({ cls := "HammockReach$Tape", name := "isFigure", desc := "(I)Z" } : Jvm.MethodName)) ∈ TT := TT_mem 288 (by decide +kernel) rfl
theorem tw_289 : (Jvm.Cond.code ({ cls := "HammockReach$Tape", name := "isFigure", desc := "(I)Z" } : Jvm.MethodName) prog_6_method_11_code (1 : Nat) (Option.some Jvm.ClassFile.FieldType.boolean)) ∈ TT := TT_mem 289 (by decide +kernel) rfl
theorem tw_290 : (Jvm.Cond.methodLink "HammockReach$Tape" (31 : Nat) ({ cls := "HammockReach$Tape", name := "readHammock", desc := "(LHammockReach$Forest;)Z" } : Jvm.MethodName)) ∈ TT := TT_mem 290 (by decide +kernel) rfl
theorem tw_292 : (Jvm.Cond.instanceMethod ({ cls := "HammockReach$Tape", name := "readHammock", desc := "(LHammockReach$Forest;)Z" } : Jvm.MethodName)) ∈ TT := TT_mem 292 (by decide +kernel) rfl
theorem tw_293 : (Jvm.Cond.code ({ cls := "HammockReach$Tape", name := "readHammock", desc := "(LHammockReach$Forest;)Z" } : Jvm.MethodName) prog_6_method_4_code (4 : Nat) (Option.some Jvm.ClassFile.FieldType.boolean)) ∈ TT := TT_mem 293 (by decide +kernel) rfl
theorem tw_294 : (Jvm.Cond.methodLink "HammockReach$Tape" (55 : Nat) ({ cls := "HammockReach$Tape", name := "sortOf", desc := "(I)I" } : Jvm.MethodName)) ∈ TT := TT_mem 294 (by decide +kernel) rfl
theorem tw_295 : (Jvm.Cond.static ({ cls := "HammockReach$Tape", name := "sortOf", desc := "(I)I" } : Jvm.MethodName)) ∈ TT := TT_mem 295 (by decide +kernel) rfl
theorem tw_296 : (Jvm.Cond.code ({ cls := "HammockReach$Tape", name := "sortOf", desc := "(I)I" } : Jvm.MethodName) prog_6_method_12_code (1 : Nat) (Option.some Jvm.ClassFile.FieldType.int)) ∈ TT := TT_mem 296 (by decide +kernel) rfl
theorem tw_297 : (Jvm.Cond.methodLink "HammockReach$Tape" (64 : Nat) ({ cls := "HammockReach$Tape", name := "readTrees", desc := "(LHammockReach$Forest;I)Z" } : Jvm.MethodName)) ∈ TT := TT_mem 297 (by decide +kernel) rfl
theorem tw_299 : (Jvm.Cond.instanceMethod ({ cls := "HammockReach$Tape", name := "readTrees", desc := "(LHammockReach$Forest;I)Z" } : Jvm.MethodName)) ∈ TT := TT_mem 299 (by decide +kernel) rfl
theorem tw_300 : (Jvm.Cond.code ({ cls := "HammockReach$Tape", name := "readTrees", desc := "(LHammockReach$Forest;I)Z" } : Jvm.MethodName) prog_6_method_5_code (3 : Nat) (Option.some Jvm.ClassFile.FieldType.boolean)) ∈ TT := TT_mem 300 (by decide +kernel) rfl
theorem tw_301 : (Jvm.Cond.methodLink "HammockReach$Tape" (68 : Nat) ({ cls := "HammockReach$Tape", name := "readLoad", desc := "(LHammockReach$Forest;I)Z" } : Jvm.MethodName)) ∈ TT := TT_mem 301 (by decide +kernel) rfl
theorem tw_303 : (Jvm.Cond.instanceMethod ({ cls := "HammockReach$Tape", name := "readLoad", desc := "(LHammockReach$Forest;I)Z" } : Jvm.MethodName)) ∈ TT := TT_mem 303 (by decide +kernel) rfl
theorem tw_304 : (Jvm.Cond.code ({ cls := "HammockReach$Tape", name := "readLoad", desc := "(LHammockReach$Forest;I)Z" } : Jvm.MethodName) prog_6_method_6_code (3 : Nat) (Option.some Jvm.ClassFile.FieldType.boolean)) ∈ TT := TT_mem 304 (by decide +kernel) rfl
theorem tw_305 : (Jvm.Cond.constant "HammockReach" (108 : Nat) (-1000100 : Int32)) ∈ TT := TT_mem 305 (by decide +kernel) rfl
theorem tw_306 : (Jvm.Cond.methodLink "HammockReach" (112 : Nat) ({ cls := "HammockReach$Forest", name := "takeFrom", desc := "(LHammockReach$Forest;)V" } : Jvm.MethodName)) ∈ TT := TT_mem 306 (by decide +kernel) rfl
theorem tw_307 : (Jvm.Cond.instanceMethod ({ cls := "HammockReach$Forest", name := "takeFrom", desc := "(LHammockReach$Forest;)V" } : Jvm.MethodName)) ∈ TT := TT_mem 307 (by decide +kernel) rfl
theorem tw_308 : (Jvm.Cond.selects "HammockReach$Forest" ({ cls := "HammockReach$Forest", name := "takeFrom", desc := "(LHammockReach$Forest;)V" } : Jvm.MethodName) ({ cls := "HammockReach$Forest", name := "takeFrom", desc := "(LHammockReach$Forest;)V" } : Jvm.MethodName)) ∈ TT := TT_mem 308 (by decide +kernel) rfl
theorem tw_309 : (Jvm.Cond.code ({ cls := "HammockReach$Forest", name := "takeFrom", desc := "(LHammockReach$Forest;)V" } : Jvm.MethodName) prog_3_method_3_code (2 : Nat) (Option.none : Option Jvm.ClassFile.FieldType)) ∈ TT := TT_mem 309 (by decide +kernel) rfl
theorem tw_310 : (Jvm.Cond.methodLink "HammockReach$Forest" (41 : Nat) ({ cls := "java/lang/System", name := "arraycopy", desc := "(Ljava/lang/Object;ILjava/lang/Object;II)V" } : Jvm.MethodName)) ∈ TT := TT_mem 310 (by decide +kernel) rfl
theorem tw_311 : (Jvm.Cond.methodLink "HammockReach" (116 : Nat) ({ cls := "HammockReach$Acts", name := "forget", desc := "()V" } : Jvm.MethodName)) ∈ TT := TT_mem 311 (by decide +kernel) rfl
theorem tw_312 : (Jvm.Cond.instanceMethod ({ cls := "HammockReach$Acts", name := "forget", desc := "()V" } : Jvm.MethodName)) ∈ TT := TT_mem 312 (by decide +kernel) rfl
theorem tw_313 : (Jvm.Cond.selects "HammockReach$Acts" ({ cls := "HammockReach$Acts", name := "forget", desc := "()V" } : Jvm.MethodName) ({ cls := "HammockReach$Acts", name := "forget", desc := "()V" } : Jvm.MethodName)) ∈ TT := TT_mem 313 (by decide +kernel) rfl
theorem tw_314 : (Jvm.Cond.code ({ cls := "HammockReach$Acts", name := "forget", desc := "()V" } : Jvm.MethodName) prog_2_method_2_code (1 : Nat) (Option.none : Option Jvm.ClassFile.FieldType)) ∈ TT := TT_mem 314 (by decide +kernel) rfl
theorem tw_315 : (Jvm.Cond.methodLink "HammockReachLaw" (41 : Nat) ({ cls := "HammockReach", name := "fault", desc := "()I" } : Jvm.MethodName)) ∈ TT := TT_mem 315 (by decide +kernel) rfl
theorem tw_316 : (Jvm.Cond.instanceMethod ({ cls := "HammockReach", name := "fault", desc := "()I" } : Jvm.MethodName)) ∈ TT := TT_mem 316 (by decide +kernel) rfl
theorem tw_317 : (Jvm.Cond.selects "HammockReach" ({ cls := "HammockReach", name := "fault", desc := "()I" } : Jvm.MethodName) ({ cls := "HammockReach", name := "fault", desc := "()I" } : Jvm.MethodName)) ∈ TT := TT_mem 317 (by decide +kernel) rfl
theorem tw_318 : (Jvm.Cond.code ({ cls := "HammockReach", name := "fault", desc := "()I" } : Jvm.MethodName) prog_1_method_8_code (1 : Nat) (Option.some Jvm.ClassFile.FieldType.int)) ∈ TT := TT_mem 318 (by decide +kernel) rfl
theorem tw_319 : (Jvm.Cond.methodLink "HammockReachLaw" (45 : Nat) ({ cls := "HammockReach", name := "minutes", desc := "(I)I" } : Jvm.MethodName)) ∈ TT := TT_mem 319 (by decide +kernel) rfl
theorem tw_320 : (Jvm.Cond.instanceMethod ({ cls := "HammockReach", name := "minutes", desc := "(I)I" } : Jvm.MethodName)) ∈ TT := TT_mem 320 (by decide +kernel) rfl
theorem tw_321 : (Jvm.Cond.selects "HammockReach" ({ cls := "HammockReach", name := "minutes", desc := "(I)I" } : Jvm.MethodName) ({ cls := "HammockReach", name := "minutes", desc := "(I)I" } : Jvm.MethodName)) ∈ TT := TT_mem 321 (by decide +kernel) rfl
theorem tw_322 : (Jvm.Cond.code ({ cls := "HammockReach", name := "minutes", desc := "(I)I" } : Jvm.MethodName) prog_1_method_9_code (3 : Nat) (Option.some Jvm.ClassFile.FieldType.int)) ∈ TT := TT_mem 322 (by decide +kernel) rfl
theorem tw_323 : (Jvm.Cond.constant "HammockReach" (127 : Nat) (-1000002 : Int32)) ∈ TT := TT_mem 323 (by decide +kernel) rfl
theorem tw_324 : (Jvm.Cond.methodLink "HammockReach" (131 : Nat) ({ cls := "HammockReach$Acts", name := "keep", desc := "(IIII)V" } : Jvm.MethodName)) ∈ TT := TT_mem 324 (by decide +kernel) rfl
theorem tw_325 : (Jvm.Cond.instanceMethod ({ cls := "HammockReach$Acts", name := "keep", desc := "(IIII)V" } : Jvm.MethodName)) ∈ TT := TT_mem 325 (by decide +kernel) rfl
theorem tw_326 : (Jvm.Cond.selects "HammockReach$Acts" ({ cls := "HammockReach$Acts", name := "keep", desc := "(IIII)V" } : Jvm.MethodName) ({ cls := "HammockReach$Acts", name := "keep", desc := "(IIII)V" } : Jvm.MethodName)) ∈ TT := TT_mem 326 (by decide +kernel) rfl
theorem tw_327 : (Jvm.Cond.code ({ cls := "HammockReach$Acts", name := "keep", desc := "(IIII)V" } : Jvm.MethodName) prog_2_method_3_code (6 : Nat) (Option.none : Option Jvm.ClassFile.FieldType)) ∈ TT := TT_mem 327 (by decide +kernel) rfl
theorem tw_328 : (Jvm.Cond.methodLink "HammockReach" (135 : Nat) ({ cls := "HammockReach$Forest", name := "downBits", desc := "(I)I" } : Jvm.MethodName)) ∈ TT := TT_mem 328 (by decide +kernel) rfl
theorem tw_329 : (Jvm.Cond.instanceMethod ({ cls := "HammockReach$Forest", name := "downBits", desc := "(I)I" } : Jvm.MethodName)) ∈ TT := TT_mem 329 (by decide +kernel) rfl
theorem tw_330 : (Jvm.Cond.selects "HammockReach$Forest" ({ cls := "HammockReach$Forest", name := "downBits", desc := "(I)I" } : Jvm.MethodName) ({ cls := "HammockReach$Forest", name := "downBits", desc := "(I)I" } : Jvm.MethodName)) ∈ TT := TT_mem 330 (by decide +kernel) rfl
theorem tw_331 : (Jvm.Cond.code ({ cls := "HammockReach$Forest", name := "downBits", desc := "(I)I" } : Jvm.MethodName) prog_3_method_7_code (4 : Nat) (Option.some Jvm.ClassFile.FieldType.int)) ∈ TT := TT_mem 331 (by decide +kernel) rfl
theorem tw_332 : (Jvm.Cond.methodLink "HammockReach$Forest" (61 : Nat) ({ cls := "HammockReach$Forest", name := "isDown", desc := "(II)Z" } : Jvm.MethodName)) ∈ TT := TT_mem 332 (by decide +kernel) rfl
theorem tw_333 : (Jvm.Cond.instanceMethod ({ cls := "HammockReach$Forest", name := "isDown", desc := "(II)Z" } : Jvm.MethodName)) ∈ TT := TT_mem 333 (by decide +kernel) rfl
theorem tw_334 : (Jvm.Cond.selects "HammockReach$Forest" ({ cls := "HammockReach$Forest", name := "isDown", desc := "(II)Z" } : Jvm.MethodName) ({ cls := "HammockReach$Forest", name := "isDown", desc := "(II)Z" } : Jvm.MethodName)) ∈ TT := TT_mem 334 (by decide +kernel) rfl
theorem tw_335 : (Jvm.Cond.code ({ cls := "HammockReach$Forest", name := "isDown", desc := "(II)Z" } : Jvm.MethodName) prog_3_method_6_code (3 : Nat) (Option.some Jvm.ClassFile.FieldType.boolean)) ∈ TT := TT_mem 335 (by decide +kernel) rfl
theorem tw_336 : (Jvm.Cond.methodLink "HammockReach$Forest" (53 : Nat) ({ cls := "HammockReach$Forest", name := "isCut", desc := "(I)Z" } : Jvm.MethodName)) ∈ TT := TT_mem 336 (by decide +kernel) rfl
theorem tw_337 : (Jvm.Cond.instanceMethod ({ cls := "HammockReach$Forest", name := "isCut", desc := "(I)Z" } : Jvm.MethodName)) ∈ TT := TT_mem 337 (by decide +kernel) rfl
theorem tw_338 : (Jvm.Cond.selects "HammockReach$Forest" ({ cls := "HammockReach$Forest", name := "isCut", desc := "(I)Z" } : Jvm.MethodName) ({ cls := "HammockReach$Forest", name := "isCut", desc := "(I)Z" } : Jvm.MethodName)) ∈ TT := TT_mem 338 (by decide +kernel) rfl
theorem tw_339 : (Jvm.Cond.code ({ cls := "HammockReach$Forest", name := "isCut", desc := "(I)Z" } : Jvm.MethodName) prog_3_method_4_code (2 : Nat) (Option.some Jvm.ClassFile.FieldType.boolean)) ∈ TT := TT_mem 339 (by decide +kernel) rfl
theorem tw_340 : (Jvm.Cond.methodLink "HammockReach$Forest" (57 : Nat) ({ cls := "HammockReach$Forest", name := "dip", desc := "(II)I" } : Jvm.MethodName)) ∈ TT := TT_mem 340 (by decide +kernel) rfl
theorem tw_341 : (Jvm.Cond.instanceMethod ({ cls := "HammockReach$Forest", name := "dip", desc := "(II)I" } : Jvm.MethodName)) ∈ TT := TT_mem 341 (by decide +kernel) rfl
theorem tw_342 : (Jvm.Cond.selects "HammockReach$Forest" ({ cls := "HammockReach$Forest", name := "dip", desc := "(II)I" } : Jvm.MethodName) ({ cls := "HammockReach$Forest", name := "dip", desc := "(II)I" } : Jvm.MethodName)) ∈ TT := TT_mem 342 (by decide +kernel) rfl
theorem tw_343 : (Jvm.Cond.code ({ cls := "HammockReach$Forest", name := "dip", desc := "(II)I" } : Jvm.MethodName) prog_3_method_5_code (5 : Nat) (Option.some Jvm.ClassFile.FieldType.int)) ∈ TT := TT_mem 343 (by decide +kernel) rfl
theorem tw_344 : (Jvm.Cond.methodLink "HammockReachLaw" (49 : Nat) ({ cls := "HammockReach", name := "sling", desc := "(III)I" } : Jvm.MethodName)) ∈ TT := TT_mem 344 (by decide +kernel) rfl
theorem tw_345 : (Jvm.Cond.instanceMethod ({ cls := "HammockReach", name := "sling", desc := "(III)I" } : Jvm.MethodName)) ∈ TT := TT_mem 345 (by decide +kernel) rfl
theorem tw_346 : (Jvm.Cond.selects "HammockReach" ({ cls := "HammockReach", name := "sling", desc := "(III)I" } : Jvm.MethodName) ({ cls := "HammockReach", name := "sling", desc := "(III)I" } : Jvm.MethodName)) ∈ TT := TT_mem 346 (by decide +kernel) rfl
theorem tw_347 : (Jvm.Cond.code ({ cls := "HammockReach", name := "sling", desc := "(III)I" } : Jvm.MethodName) prog_1_method_10_code (4 : Nat) (Option.some Jvm.ClassFile.FieldType.int)) ∈ TT := TT_mem 347 (by decide +kernel) rfl
theorem tw_348 : (Jvm.Cond.methodLink "HammockReach" (138 : Nat) ({ cls := "HammockReach", name := "isHammock", desc := "(I)Z" } : Jvm.MethodName)) ∈ TT := TT_mem 348 (by decide +kernel) rfl
theorem tw_350 : (Jvm.Cond.instanceMethod ({ cls := "HammockReach", name := "isHammock", desc := "(I)Z" } : Jvm.MethodName)) ∈ TT := TT_mem 350 (by decide +kernel) rfl
theorem tw_351 : (Jvm.Cond.code ({ cls := "HammockReach", name := "isHammock", desc := "(I)Z" } : Jvm.MethodName) prog_1_method_37_code (2 : Nat) (Option.some Jvm.ClassFile.FieldType.boolean)) ∈ TT := TT_mem 351 (by decide +kernel) rfl
theorem tw_352 : (Jvm.Cond.methodLink "HammockReach" (147 : Nat) ({ cls := "HammockReach$Forest", name := "place", desc := "(II)I" } : Jvm.MethodName)) ∈ TT := TT_mem 352 (by decide +kernel) rfl
theorem tw_353 : (Jvm.Cond.instanceMethod ({ cls := "HammockReach$Forest", name := "place", desc := "(II)I" } : Jvm.MethodName)) ∈ TT := TT_mem 353 (by decide +kernel) rfl
theorem tw_354 : (Jvm.Cond.selects "HammockReach$Forest" ({ cls := "HammockReach$Forest", name := "place", desc := "(II)I" } : Jvm.MethodName) ({ cls := "HammockReach$Forest", name := "place", desc := "(II)I" } : Jvm.MethodName)) ∈ TT := TT_mem 354 (by decide +kernel) rfl
theorem tw_355 : (Jvm.Cond.code ({ cls := "HammockReach$Forest", name := "place", desc := "(II)I" } : Jvm.MethodName) prog_3_method_8_code (3 : Nat) (Option.some Jvm.ClassFile.FieldType.int)) ∈ TT := TT_mem 355 (by decide +kernel) rfl
theorem tw_356 : (Jvm.Cond.methodLink "HammockReach$Forest" (65 : Nat) ({ cls := "HammockReach$Forest", name := "offset", desc := "(II)I" } : Jvm.MethodName)) ∈ TT := TT_mem 356 (by decide +kernel) rfl
theorem tw_358 : (Jvm.Cond.instanceMethod ({ cls := "HammockReach$Forest", name := "offset", desc := "(II)I" } : Jvm.MethodName)) ∈ TT := TT_mem 358 (by decide +kernel) rfl
theorem tw_359 : (Jvm.Cond.code ({ cls := "HammockReach$Forest", name := "offset", desc := "(II)I" } : Jvm.MethodName) prog_3_method_9_code (3 : Nat) (Option.some Jvm.ClassFile.FieldType.int)) ∈ TT := TT_mem 359 (by decide +kernel) rfl
theorem tw_360 : (Jvm.Cond.methodLink "HammockReach$Forest" (68 : Nat) ({ cls := "HammockReach$Forest", name := "swung", desc := "(II)I" } : Jvm.MethodName)) ∈ TT := TT_mem 360 (by decide +kernel) rfl
theorem tw_361 : (Jvm.Cond.static ({ cls := "HammockReach$Forest", name := "swung", desc := "(II)I" } : Jvm.MethodName)) ∈ TT := TT_mem 361 (by decide +kernel) rfl
theorem tw_362 : (Jvm.Cond.code ({ cls := "HammockReach$Forest", name := "swung", desc := "(II)I" } : Jvm.MethodName) prog_3_method_10_code (3 : Nat) (Option.some Jvm.ClassFile.FieldType.int)) ∈ TT := TT_mem 362 (by decide +kernel) rfl
theorem tw_363 : (Jvm.Cond.methodLink "HammockReachLaw" (53 : Nat) ({ cls := "HammockReach", name := "load", desc := "(II)I" } : Jvm.MethodName)) ∈ TT := TT_mem 363 (by decide +kernel) rfl
theorem tw_364 : (Jvm.Cond.instanceMethod ({ cls := "HammockReach", name := "load", desc := "(II)I" } : Jvm.MethodName)) ∈ TT := TT_mem 364 (by decide +kernel) rfl
theorem tw_365 : (Jvm.Cond.selects "HammockReach" ({ cls := "HammockReach", name := "load", desc := "(II)I" } : Jvm.MethodName) ({ cls := "HammockReach", name := "load", desc := "(II)I" } : Jvm.MethodName)) ∈ TT := TT_mem 365 (by decide +kernel) rfl
theorem tw_366 : (Jvm.Cond.code ({ cls := "HammockReach", name := "load", desc := "(II)I" } : Jvm.MethodName) prog_1_method_11_code (3 : Nat) (Option.some Jvm.ClassFile.FieldType.int)) ∈ TT := TT_mem 366 (by decide +kernel) rfl
theorem tw_367 : (Jvm.Cond.methodLink "HammockReach" (154 : Nat) ({ cls := "HammockReach$Forest", name := "dip", desc := "(II)I" } : Jvm.MethodName)) ∈ TT := TT_mem 367 (by decide +kernel) rfl
theorem tw_368 : (Jvm.Cond.methodLink "HammockReachLaw" (58 : Nat) ({ cls := "HammockReach", name := "cord", desc := "(II)I" } : Jvm.MethodName)) ∈ TT := TT_mem 368 (by decide +kernel) rfl
theorem tw_369 : (Jvm.Cond.instanceMethod ({ cls := "HammockReach", name := "cord", desc := "(II)I" } : Jvm.MethodName)) ∈ TT := TT_mem 369 (by decide +kernel) rfl
theorem tw_370 : (Jvm.Cond.selects "HammockReach" ({ cls := "HammockReach", name := "cord", desc := "(II)I" } : Jvm.MethodName) ({ cls := "HammockReach", name := "cord", desc := "(II)I" } : Jvm.MethodName)) ∈ TT := TT_mem 370 (by decide +kernel) rfl
theorem tw_371 : (Jvm.Cond.code ({ cls := "HammockReach", name := "cord", desc := "(II)I" } : Jvm.MethodName) prog_1_method_12_code (3 : Nat) (Option.some Jvm.ClassFile.FieldType.int)) ∈ TT := TT_mem 371 (by decide +kernel) rfl
theorem tw_372 : (Jvm.Cond.methodLink "HammockReach" (157 : Nat) ({ cls := "HammockReach$Forest", name := "isCut", desc := "(I)Z" } : Jvm.MethodName)) ∈ TT := TT_mem 372 (by decide +kernel) rfl
theorem tw_373 : (Jvm.Cond.methodLink "HammockReachLaw" (62 : Nat) ({ cls := "HammockReach", name := "undo", desc := "()I" } : Jvm.MethodName)) ∈ TT := TT_mem 373 (by decide +kernel) rfl
theorem tw_374 : (Jvm.Cond.instanceMethod ({ cls := "HammockReach", name := "undo", desc := "()I" } : Jvm.MethodName)) ∈ TT := TT_mem 374 (by decide +kernel) rfl
theorem tw_375 : (Jvm.Cond.selects "HammockReach" ({ cls := "HammockReach", name := "undo", desc := "()I" } : Jvm.MethodName) ({ cls := "HammockReach", name := "undo", desc := "()I" } : Jvm.MethodName)) ∈ TT := TT_mem 375 (by decide +kernel) rfl
theorem tw_376 : (Jvm.Cond.code ({ cls := "HammockReach", name := "undo", desc := "()I" } : Jvm.MethodName) prog_1_method_13_code (1 : Nat) (Option.some Jvm.ClassFile.FieldType.int)) ∈ TT := TT_mem 376 (by decide +kernel) rfl
theorem tw_377 : (Jvm.Cond.methodLink "HammockReach" (166 : Nat) ({ cls := "HammockReach$Acts", name := "takeBack", desc := "(LHammockReach$Forest;)V" } : Jvm.MethodName)) ∈ TT := TT_mem 377 (by decide +kernel) rfl
theorem tw_378 : (Jvm.Cond.instanceMethod ({ cls := "HammockReach$Acts", name := "takeBack", desc := "(LHammockReach$Forest;)V" } : Jvm.MethodName)) ∈ TT := TT_mem 378 (by decide +kernel) rfl
theorem tw_379 : (Jvm.Cond.selects "HammockReach$Acts" ({ cls := "HammockReach$Acts", name := "takeBack", desc := "(LHammockReach$Forest;)V" } : Jvm.MethodName) ({ cls := "HammockReach$Acts", name := "takeBack", desc := "(LHammockReach$Forest;)V" } : Jvm.MethodName)) ∈ TT := TT_mem 379 (by decide +kernel) rfl
theorem tw_380 : (Jvm.Cond.code ({ cls := "HammockReach$Acts", name := "takeBack", desc := "(LHammockReach$Forest;)V" } : Jvm.MethodName) prog_2_method_4_code (4 : Nat) (Option.none : Option Jvm.ClassFile.FieldType)) ∈ TT := TT_mem 380 (by decide +kernel) rfl
theorem tw_381 : (Jvm.Cond.methodLink "HammockReachLaw" (66 : Nat) ({ cls := "HammockReach", name := "hammock", desc := "(II)I" } : Jvm.MethodName)) ∈ TT := TT_mem 381 (by decide +kernel) rfl
theorem tw_382 : (Jvm.Cond.instanceMethod ({ cls := "HammockReach", name := "hammock", desc := "(II)I" } : Jvm.MethodName)) ∈ TT := TT_mem 382 (by decide +kernel) rfl
theorem tw_383 : (Jvm.Cond.selects "HammockReach" ({ cls := "HammockReach", name := "hammock", desc := "(II)I" } : Jvm.MethodName) ({ cls := "HammockReach", name := "hammock", desc := "(II)I" } : Jvm.MethodName)) ∈ TT := TT_mem 383 (by decide +kernel) rfl
theorem tw_384 : (Jvm.Cond.code ({ cls := "HammockReach", name := "hammock", desc := "(II)I" } : Jvm.MethodName) prog_1_method_14_code (3 : Nat) (Option.some Jvm.ClassFile.FieldType.int)) ∈ TT := TT_mem 384 (by decide +kernel) rfl
theorem tw_385 : (Jvm.Cond.methodLink "HammockReachLaw" (70 : Nat) ({ cls := "HammockReach", name := "ahead", desc := "(III)I" } : Jvm.MethodName)) ∈ TT := TT_mem 385 (by decide +kernel) rfl
theorem tw_386 : (Jvm.Cond.instanceMethod ({ cls := "HammockReach", name := "ahead", desc := "(III)I" } : Jvm.MethodName)) ∈ TT := TT_mem 386 (by decide +kernel) rfl
theorem tw_387 : (Jvm.Cond.selects "HammockReach" ({ cls := "HammockReach", name := "ahead", desc := "(III)I" } : Jvm.MethodName) ({ cls := "HammockReach", name := "ahead", desc := "(III)I" } : Jvm.MethodName)) ∈ TT := TT_mem 387 (by decide +kernel) rfl
theorem tw_388 : (Jvm.Cond.code ({ cls := "HammockReach", name := "ahead", desc := "(III)I" } : Jvm.MethodName) prog_1_method_15_code (5 : Nat) (Option.some Jvm.ClassFile.FieldType.int)) ∈ TT := TT_mem 388 (by decide +kernel) rfl
theorem tw_389 : (Jvm.Cond.methodLink "HammockReach" (172 : Nat) ({ cls := "HammockReach", name := "isAhead", desc := "(I)Z" } : Jvm.MethodName)) ∈ TT := TT_mem 389 (by decide +kernel) rfl
theorem tw_390 : (Jvm.Cond.static ({ cls := "HammockReach", name := "isAhead", desc := "(I)Z" } : Jvm.MethodName)) ∈ TT := TT_mem 390 (by decide +kernel) rfl
theorem tw_391 : (Jvm.Cond.code ({ cls := "HammockReach", name := "isAhead", desc := "(I)Z" } : Jvm.MethodName) prog_1_method_36_code (1 : Nat) (Option.some Jvm.ClassFile.FieldType.boolean)) ∈ TT := TT_mem 391 (by decide +kernel) rfl
theorem tw_392 : (Jvm.Cond.methodLink "HammockReachLaw" (74 : Nat) ({ cls := "HammockReach", name := "down", desc := "(I)I" } : Jvm.MethodName)) ∈ TT := TT_mem 392 (by decide +kernel) rfl
theorem tw_393 : (Jvm.Cond.instanceMethod ({ cls := "HammockReach", name := "down", desc := "(I)I" } : Jvm.MethodName)) ∈ TT := TT_mem 393 (by decide +kernel) rfl
theorem tw_394 : (Jvm.Cond.selects "HammockReach" ({ cls := "HammockReach", name := "down", desc := "(I)I" } : Jvm.MethodName) ({ cls := "HammockReach", name := "down", desc := "(I)I" } : Jvm.MethodName)) ∈ TT := TT_mem 394 (by decide +kernel) rfl
theorem tw_395 : (Jvm.Cond.code ({ cls := "HammockReach", name := "down", desc := "(I)I" } : Jvm.MethodName) prog_1_method_16_code (2 : Nat) (Option.some Jvm.ClassFile.FieldType.int)) ∈ TT := TT_mem 395 (by decide +kernel) rfl
theorem tw_396 : (Jvm.Cond.methodLink "HammockReachLaw" (78 : Nat) ({ cls := "HammockReach", name := "reach", desc := "(II)I" } : Jvm.MethodName)) ∈ TT := TT_mem 396 (by decide +kernel) rfl
theorem tw_397 : (Jvm.Cond.instanceMethod ({ cls := "HammockReach", name := "reach", desc := "(II)I" } : Jvm.MethodName)) ∈ TT := TT_mem 397 (by decide +kernel) rfl
theorem tw_398 : (Jvm.Cond.selects "HammockReach" ({ cls := "HammockReach", name := "reach", desc := "(II)I" } : Jvm.MethodName) ({ cls := "HammockReach", name := "reach", desc := "(II)I" } : Jvm.MethodName)) ∈ TT := TT_mem 398 (by decide +kernel) rfl
theorem tw_399 : (Jvm.Cond.code ({ cls := "HammockReach", name := "reach", desc := "(II)I" } : Jvm.MethodName) prog_1_method_17_code (3 : Nat) (Option.some Jvm.ClassFile.FieldType.int)) ∈ TT := TT_mem 399 (by decide +kernel) rfl
theorem tw_400 : (Jvm.Cond.methodLink "HammockReach" (175 : Nat) ({ cls := "HammockReach$Forest", name := "nearBits", desc := "(II)I" } : Jvm.MethodName)) ∈ TT := TT_mem 400 (by decide +kernel) rfl
theorem tw_401 : (Jvm.Cond.instanceMethod ({ cls := "HammockReach$Forest", name := "nearBits", desc := "(II)I" } : Jvm.MethodName)) ∈ TT := TT_mem 401 (by decide +kernel) rfl
theorem tw_402 : (Jvm.Cond.selects "HammockReach$Forest" ({ cls := "HammockReach$Forest", name := "nearBits", desc := "(II)I" } : Jvm.MethodName) ({ cls := "HammockReach$Forest", name := "nearBits", desc := "(II)I" } : Jvm.MethodName)) ∈ TT := TT_mem 402 (by decide +kernel) rfl
theorem tw_403 : (Jvm.Cond.code ({ cls := "HammockReach$Forest", name := "nearBits", desc := "(II)I" } : Jvm.MethodName) prog_3_method_13_code (6 : Nat) (Option.some Jvm.ClassFile.FieldType.int)) ∈ TT := TT_mem 403 (by decide +kernel) rfl
theorem tw_404 : (Jvm.Cond.methodLink "HammockReach$Forest" (80 : Nat) ({ cls := "HammockReach$Forest", name := "spot", desc := "(II)I" } : Jvm.MethodName)) ∈ TT := TT_mem 404 (by decide +kernel) rfl
theorem tw_405 : (Jvm.Cond.instanceMethod ({ cls := "HammockReach$Forest", name := "spot", desc := "(II)I" } : Jvm.MethodName)) ∈ TT := TT_mem 405 (by decide +kernel) rfl
theorem tw_406 : (Jvm.Cond.selects "HammockReach$Forest" ({ cls := "HammockReach$Forest", name := "spot", desc := "(II)I" } : Jvm.MethodName) ({ cls := "HammockReach$Forest", name := "spot", desc := "(II)I" } : Jvm.MethodName)) ∈ TT := TT_mem 406 (by decide +kernel) rfl
theorem tw_407 : (Jvm.Cond.code ({ cls := "HammockReach$Forest", name := "spot", desc := "(II)I" } : Jvm.MethodName) prog_3_method_11_code (3 : Nat) (Option.some Jvm.ClassFile.FieldType.int)) ∈ TT := TT_mem 407 (by decide +kernel) rfl
theorem tw_408 : (Jvm.Cond.methodLink "HammockReach$Forest" (71 : Nat) ({ cls := "HammockReach$Forest", name := "place", desc := "(II)I" } : Jvm.MethodName)) ∈ TT := TT_mem 408 (by decide +kernel) rfl
theorem tw_409 : (Jvm.Cond.methodLink "HammockReach$Forest" (83 : Nat) ({ cls := "HammockReach$Forest", name := "areNear", desc := "(II)Z" } : Jvm.MethodName)) ∈ TT := TT_mem 409 (by decide +kernel) rfl
theorem tw_410 : (Jvm.Cond.instanceMethod ({ cls := "HammockReach$Forest", name := "areNear", desc := "(II)Z" } : Jvm.MethodName)) ∈ TT := TT_mem 410 (by decide +kernel) rfl
theorem tw_411 : (Jvm.Cond.selects "HammockReach$Forest" ({ cls := "HammockReach$Forest", name := "areNear", desc := "(II)Z" } : Jvm.MethodName) ({ cls := "HammockReach$Forest", name := "areNear", desc := "(II)Z" } : Jvm.MethodName)) ∈ TT := TT_mem 411 (by decide +kernel) rfl
theorem tw_412 : (Jvm.Cond.code ({ cls := "HammockReach$Forest", name := "areNear", desc := "(II)Z" } : Jvm.MethodName) prog_3_method_12_code (3 : Nat) (Option.some Jvm.ClassFile.FieldType.boolean)) ∈ TT := TT_mem 412 (by decide +kernel) rfl
theorem tw_413 : (Jvm.Cond.methodLink "HammockReach$Forest" (74 : Nat) ({ cls := "java/lang/Math", name := "abs", desc := "(I)I" } : Jvm.MethodName)) ∈ TT := TT_mem 413 (by decide +kernel) rfl
theorem tw_414 : (Jvm.Cond.static ({ cls := "java/lang/Math", name := "abs", desc := "(I)I" } : Jvm.MethodName)) ∈ TT := TT_mem 414 (by decide +kernel) rfl
theorem tw_415 : (Jvm.Cond.code ({ cls := "java/lang/Math", name := "abs", desc := "(I)I" } : Jvm.MethodName) prog_10_method_59_code (1 : Nat) (Option.some Jvm.ClassFile.FieldType.int)) ∈ TT := TT_mem 415 (by decide +kernel) rfl
theorem tw_416 : (Jvm.Cond.methodLink "HammockReachLaw" (82 : Nat) ({ cls := "HammockReach", name := "meet", desc := "(II)I" } : Jvm.MethodName)) ∈ TT := TT_mem 416 (by decide +kernel) rfl
theorem tw_417 : (Jvm.Cond.instanceMethod ({ cls := "HammockReach", name := "meet", desc := "(II)I" } : Jvm.MethodName)) ∈ TT := TT_mem 417 (by decide +kernel) rfl
theorem tw_418 : (Jvm.Cond.selects "HammockReach" ({ cls := "HammockReach", name := "meet", desc := "(II)I" } : Jvm.MethodName) ({ cls := "HammockReach", name := "meet", desc := "(II)I" } : Jvm.MethodName)) ∈ TT := TT_mem 418 (by decide +kernel) rfl
theorem tw_419 : (Jvm.Cond.code ({ cls := "HammockReach", name := "meet", desc := "(II)I" } : Jvm.MethodName) prog_1_method_18_code (4 : Nat) (Option.some Jvm.ClassFile.FieldType.int)) ∈ TT := TT_mem 419 (by decide +kernel) rfl
theorem tw_420 : (Jvm.Cond.methodLink "HammockReach" (178 : Nat) ({ cls := "HammockReach", name := "areTwo", desc := "(II)Z" } : Jvm.MethodName)) ∈ TT := TT_mem 420 (by decide +kernel) rfl
theorem tw_422 : (Jvm.Cond.instanceMethod ({ cls := "HammockReach", name := "areTwo", desc := "(II)Z" } : Jvm.MethodName)) ∈ TT := TT_mem 422 (by decide +kernel) rfl
theorem tw_423 : (Jvm.Cond.code ({ cls := "HammockReach", name := "areTwo", desc := "(II)Z" } : Jvm.MethodName) prog_1_method_38_code (3 : Nat) (Option.some Jvm.ClassFile.FieldType.boolean)) ∈ TT := TT_mem 423 (by decide +kernel) rfl
theorem tw_424 : (Jvm.Cond.methodLink "HammockReach" (181 : Nat) ({ cls := "HammockReach$Forest", name := "spot", desc := "(II)I" } : Jvm.MethodName)) ∈ TT := TT_mem 424 (by decide +kernel) rfl
theorem tw_425 : (Jvm.Cond.methodLink "HammockReach" (184 : Nat) ({ cls := "HammockReach$Forest", name := "areNear", desc := "(II)Z" } : Jvm.MethodName)) ∈ TT := TT_mem 425 (by decide +kernel) rfl
theorem tw_426 : (Jvm.Cond.constant "HammockReach" (187 : Nat) (-1000000 : Int32)) ∈ TT := TT_mem 426 (by decide +kernel) rfl
theorem tw_427 : (Jvm.Cond.methodLink "HammockReachLaw" (86 : Nat) ({ cls := "HammockReach", name := "soonest", desc := "(II)I" } : Jvm.MethodName)) ∈ TT := TT_mem 427 (by decide +kernel) rfl
theorem tw_428 : (Jvm.Cond.instanceMethod ({ cls := "HammockReach", name := "soonest", desc := "(II)I" } : Jvm.MethodName)) ∈ TT := TT_mem 428 (by decide +kernel) rfl
theorem tw_429 : (Jvm.Cond.selects "HammockReach" ({ cls := "HammockReach", name := "soonest", desc := "(II)I" } : Jvm.MethodName) ({ cls := "HammockReach", name := "soonest", desc := "(II)I" } : Jvm.MethodName)) ∈ TT := TT_mem 429 (by decide +kernel) rfl
theorem tw_430 : (Jvm.Cond.code ({ cls := "HammockReach", name := "soonest", desc := "(II)I" } : Jvm.MethodName) prog_1_method_19_code (3 : Nat) (Option.some Jvm.ClassFile.FieldType.int)) ∈ TT := TT_mem 430 (by decide +kernel) rfl
theorem tw_431 : (Jvm.Cond.methodLink "HammockReach" (188 : Nat) ({ cls := "HammockReach$Outlook", name := "foresee", desc := "(LHammockReach$Forest;I)V" } : Jvm.MethodName)) ∈ TT := TT_mem 431 (by decide +kernel) rfl
theorem tw_432 : (Jvm.Cond.instanceMethod ({ cls := "HammockReach$Outlook", name := "foresee", desc := "(LHammockReach$Forest;I)V" } : Jvm.MethodName)) ∈ TT := TT_mem 432 (by decide +kernel) rfl
theorem tw_433 : (Jvm.Cond.selects "HammockReach$Outlook" ({ cls := "HammockReach$Outlook", name := "foresee", desc := "(LHammockReach$Forest;I)V" } : Jvm.MethodName) ({ cls := "HammockReach$Outlook", name := "foresee", desc := "(LHammockReach$Forest;I)V" } : Jvm.MethodName)) ∈ TT := TT_mem 433 (by decide +kernel) rfl
theorem tw_434 : (Jvm.Cond.code ({ cls := "HammockReach$Outlook", name := "foresee", desc := "(LHammockReach$Forest;I)V" } : Jvm.MethodName) prog_4_method_2_code (6 : Nat) (Option.none : Option Jvm.ClassFile.FieldType)) ∈ TT := TT_mem 434 (by decide +kernel) rfl
theorem tw_435 : (Jvm.Cond.methodLink "HammockReach$Outlook" (31 : Nat) ({ cls := "HammockReach$Forest", name := "spot", desc := "(II)I" } : Jvm.MethodName)) ∈ TT := TT_mem 435 (by decide +kernel) rfl
theorem tw_436 : (Jvm.Cond.methodLink "HammockReach$Outlook" (35 : Nat) ({ cls := "HammockReach$Outlook", name := "link", desc := "(LHammockReach$Forest;II)V" } : Jvm.MethodName)) ∈ TT := TT_mem 436 (by decide +kernel) rfl
theorem tw_438 : (Jvm.Cond.instanceMethod ({ cls := "HammockReach$Outlook", name := "link", desc := "(LHammockReach$Forest;II)V" } : Jvm.MethodName)) ∈ TT := TT_mem 438 (by decide +kernel) rfl
theorem tw_439 : (Jvm.Cond.code ({ cls := "HammockReach$Outlook", name := "link", desc := "(LHammockReach$Forest;II)V" } : Jvm.MethodName) prog_4_method_4_code (6 : Nat) (Option.none : Option Jvm.ClassFile.FieldType)) ∈ TT := TT_mem 439 (by decide +kernel) rfl
theorem tw_440 : (Jvm.Cond.methodLink "HammockReach$Outlook" (39 : Nat) ({ cls := "HammockReach$Forest", name := "areNear", desc := "(II)Z" } : Jvm.MethodName)) ∈ TT := TT_mem 440 (by decide +kernel) rfl
theorem tw_441 : (Jvm.Cond.methodLink "HammockReach" (192 : Nat) ({ cls := "HammockReach$Outlook", name := "arrival", desc := "(IIII)I" } : Jvm.MethodName)) ∈ TT := TT_mem 441 (by decide +kernel) rfl
theorem tw_442 : (Jvm.Cond.instanceMethod ({ cls := "HammockReach$Outlook", name := "arrival", desc := "(IIII)I" } : Jvm.MethodName)) ∈ TT := TT_mem 442 (by decide +kernel) rfl
theorem tw_443 : (Jvm.Cond.selects "HammockReach$Outlook" ({ cls := "HammockReach$Outlook", name := "arrival", desc := "(IIII)I" } : Jvm.MethodName) ({ cls := "HammockReach$Outlook", name := "arrival", desc := "(IIII)I" } : Jvm.MethodName)) ∈ TT := TT_mem 443 (by decide +kernel) rfl
theorem tw_444 : (Jvm.Cond.code ({ cls := "HammockReach$Outlook", name := "arrival", desc := "(IIII)I" } : Jvm.MethodName) prog_4_method_7_code (7 : Nat) (Option.some Jvm.ClassFile.FieldType.int)) ∈ TT := TT_mem 444 (by decide +kernel) rfl
theorem tw_445 : (Jvm.Cond.methodLink "HammockReach$Outlook" (43 : Nat) ({ cls := "HammockReach$Outlook", name := "spread", desc := "(III)I" } : Jvm.MethodName)) ∈ TT := TT_mem 445 (by decide +kernel) rfl
theorem tw_447 : (Jvm.Cond.instanceMethod ({ cls := "HammockReach$Outlook", name := "spread", desc := "(III)I" } : Jvm.MethodName)) ∈ TT := TT_mem 447 (by decide +kernel) rfl
theorem tw_448 : (Jvm.Cond.code ({ cls := "HammockReach$Outlook", name := "spread", desc := "(III)I" } : Jvm.MethodName) prog_4_method_5_code (6 : Nat) (Option.some Jvm.ClassFile.FieldType.int)) ∈ TT := TT_mem 448 (by decide +kernel) rfl
theorem tw_449 : (Jvm.Cond.constant "HammockReach$Outlook" (47 : Nat) (-1000000 : Int32)) ∈ TT := TT_mem 449 (by decide +kernel) rfl
theorem tw_450 : (Jvm.Cond.methodLink "HammockReachLaw" (90 : Nat) ({ cls := "HammockReach", name := "hands", desc := "(II)I" } : Jvm.MethodName)) ∈ TT := TT_mem 450 (by decide +kernel) rfl
theorem tw_451 : (Jvm.Cond.instanceMethod ({ cls := "HammockReach", name := "hands", desc := "(II)I" } : Jvm.MethodName)) ∈ TT := TT_mem 451 (by decide +kernel) rfl
theorem tw_452 : (Jvm.Cond.selects "HammockReach" ({ cls := "HammockReach", name := "hands", desc := "(II)I" } : Jvm.MethodName) ({ cls := "HammockReach", name := "hands", desc := "(II)I" } : Jvm.MethodName)) ∈ TT := TT_mem 452 (by decide +kernel) rfl
theorem tw_453 : (Jvm.Cond.code ({ cls := "HammockReach", name := "hands", desc := "(II)I" } : Jvm.MethodName) prog_1_method_20_code (3 : Nat) (Option.some Jvm.ClassFile.FieldType.int)) ∈ TT := TT_mem 453 (by decide +kernel) rfl
theorem tw_454 : (Jvm.Cond.methodLink "HammockReach" (196 : Nat) ({ cls := "HammockReach$Outlook", name := "fewestHands", desc := "(II)I" } : Jvm.MethodName)) ∈ TT := TT_mem 454 (by decide +kernel) rfl
theorem tw_455 : (Jvm.Cond.instanceMethod ({ cls := "HammockReach$Outlook", name := "fewestHands", desc := "(II)I" } : Jvm.MethodName)) ∈ TT := TT_mem 455 (by decide +kernel) rfl
theorem tw_456 : (Jvm.Cond.selects "HammockReach$Outlook" ({ cls := "HammockReach$Outlook", name := "fewestHands", desc := "(II)I" } : Jvm.MethodName) ({ cls := "HammockReach$Outlook", name := "fewestHands", desc := "(II)I" } : Jvm.MethodName)) ∈ TT := TT_mem 456 (by decide +kernel) rfl
theorem tw_457 : (Jvm.Cond.code ({ cls := "HammockReach$Outlook", name := "fewestHands", desc := "(II)I" } : Jvm.MethodName) prog_4_method_8_code (5 : Nat) (Option.some Jvm.ClassFile.FieldType.int)) ∈ TT := TT_mem 457 (by decide +kernel) rfl
theorem tw_458 : (Jvm.Cond.methodLink "HammockReachLaw" (94 : Nat) ({ cls := "HammockReach", name := "everywhere", desc := "(II)I" } : Jvm.MethodName)) ∈ TT := TT_mem 458 (by decide +kernel) rfl
theorem tw_459 : (Jvm.Cond.instanceMethod ({ cls := "HammockReach", name := "everywhere", desc := "(II)I" } : Jvm.MethodName)) ∈ TT := TT_mem 459 (by decide +kernel) rfl
theorem tw_460 : (Jvm.Cond.selects "HammockReach" ({ cls := "HammockReach", name := "everywhere", desc := "(II)I" } : Jvm.MethodName) ({ cls := "HammockReach", name := "everywhere", desc := "(II)I" } : Jvm.MethodName)) ∈ TT := TT_mem 460 (by decide +kernel) rfl
theorem tw_461 : (Jvm.Cond.code ({ cls := "HammockReach", name := "everywhere", desc := "(II)I" } : Jvm.MethodName) prog_1_method_21_code (3 : Nat) (Option.some Jvm.ClassFile.FieldType.int)) ∈ TT := TT_mem 461 (by decide +kernel) rfl
theorem tw_462 : (Jvm.Cond.methodLink "HammockReach" (199 : Nat) ({ cls := "HammockReach$Outlook", name := "holders", desc := "(II)I" } : Jvm.MethodName)) ∈ TT := TT_mem 462 (by decide +kernel) rfl
theorem tw_463 : (Jvm.Cond.instanceMethod ({ cls := "HammockReach$Outlook", name := "holders", desc := "(II)I" } : Jvm.MethodName)) ∈ TT := TT_mem 463 (by decide +kernel) rfl
theorem tw_464 : (Jvm.Cond.selects "HammockReach$Outlook" ({ cls := "HammockReach$Outlook", name := "holders", desc := "(II)I" } : Jvm.MethodName) ({ cls := "HammockReach$Outlook", name := "holders", desc := "(II)I" } : Jvm.MethodName)) ∈ TT := TT_mem 464 (by decide +kernel) rfl
theorem tw_465 : (Jvm.Cond.code ({ cls := "HammockReach$Outlook", name := "holders", desc := "(II)I" } : Jvm.MethodName) prog_4_method_6_code (5 : Nat) (Option.some Jvm.ClassFile.FieldType.int)) ∈ TT := TT_mem 465 (by decide +kernel) rfl
theorem tw_466 : (Jvm.Cond.methodLink "HammockReachLaw" (98 : Nat) ({ cls := "HammockReach", name := "stops", desc := "(III)I" } : Jvm.MethodName)) ∈ TT := TT_mem 466 (by decide +kernel) rfl
theorem tw_467 : (Jvm.Cond.instanceMethod ({ cls := "HammockReach", name := "stops", desc := "(III)I" } : Jvm.MethodName)) ∈ TT := TT_mem 467 (by decide +kernel) rfl
theorem tw_468 : (Jvm.Cond.selects "HammockReach" ({ cls := "HammockReach", name := "stops", desc := "(III)I" } : Jvm.MethodName) ({ cls := "HammockReach", name := "stops", desc := "(III)I" } : Jvm.MethodName)) ∈ TT := TT_mem 468 (by decide +kernel) rfl
theorem tw_469 : (Jvm.Cond.code ({ cls := "HammockReach", name := "stops", desc := "(III)I" } : Jvm.MethodName) prog_1_method_22_code (6 : Nat) (Option.some Jvm.ClassFile.FieldType.int)) ∈ TT := TT_mem 469 (by decide +kernel) rfl
theorem tw_470 : (Jvm.Cond.methodLink "HammockReachLaw" (102 : Nat) ({ cls := "HammockReach", name := "toSling", desc := "(IIII)I" } : Jvm.MethodName)) ∈ TT := TT_mem 470 (by decide +kernel) rfl
theorem tw_471 : (Jvm.Cond.instanceMethod ({ cls := "HammockReach", name := "toSling", desc := "(IIII)I" } : Jvm.MethodName)) ∈ TT := TT_mem 471 (by decide +kernel) rfl
theorem tw_472 : (Jvm.Cond.selects "HammockReach" ({ cls := "HammockReach", name := "toSling", desc := "(IIII)I" } : Jvm.MethodName) ({ cls := "HammockReach", name := "toSling", desc := "(IIII)I" } : Jvm.MethodName)) ∈ TT := TT_mem 472 (by decide +kernel) rfl
theorem tw_473 : (Jvm.Cond.code ({ cls := "HammockReach", name := "toSling", desc := "(IIII)I" } : Jvm.MethodName) prog_1_method_23_code (10 : Nat) (Option.some Jvm.ClassFile.FieldType.int)) ∈ TT := TT_mem 473 (by decide +kernel) rfl
theorem tw_474 : (Jvm.Cond.methodLink "HammockReach" (202 : Nat) ({ cls := "HammockReach$Outlook", name := "foreseeAnew", desc := "(LHammockReach$Forest;II)V" } : Jvm.MethodName)) ∈ TT := TT_mem 474 (by decide +kernel) rfl
theorem tw_475 : (Jvm.Cond.instanceMethod ({ cls := "HammockReach$Outlook", name := "foreseeAnew", desc := "(LHammockReach$Forest;II)V" } : Jvm.MethodName)) ∈ TT := TT_mem 475 (by decide +kernel) rfl
theorem tw_476 : (Jvm.Cond.selects "HammockReach$Outlook" ({ cls := "HammockReach$Outlook", name := "foreseeAnew", desc := "(LHammockReach$Forest;II)V" } : Jvm.MethodName) ({ cls := "HammockReach$Outlook", name := "foreseeAnew", desc := "(LHammockReach$Forest;II)V" } : Jvm.MethodName)) ∈ TT := TT_mem 476 (by decide +kernel) rfl
theorem tw_477 : (Jvm.Cond.code ({ cls := "HammockReach$Outlook", name := "foreseeAnew", desc := "(LHammockReach$Forest;II)V" } : Jvm.MethodName) prog_4_method_3_code (6 : Nat) (Option.none : Option Jvm.ClassFile.FieldType)) ∈ TT := TT_mem 477 (by decide +kernel) rfl
theorem tw_478 : (Jvm.Cond.methodLink "HammockReachLaw" (107 : Nat) ({ cls := "HammockReach", name := "fits", desc := "(IIIII)I" } : Jvm.MethodName)) ∈ TT := TT_mem 478 (by decide +kernel) rfl
theorem tw_479 : (Jvm.Cond.instanceMethod ({ cls := "HammockReach", name := "fits", desc := "(IIIII)I" } : Jvm.MethodName)) ∈ TT := TT_mem 479 (by decide +kernel) rfl
theorem tw_480 : (Jvm.Cond.selects "HammockReach" ({ cls := "HammockReach", name := "fits", desc := "(IIIII)I" } : Jvm.MethodName) ({ cls := "HammockReach", name := "fits", desc := "(IIIII)I" } : Jvm.MethodName)) ∈ TT := TT_mem 480 (by decide +kernel) rfl
theorem tw_481 : (Jvm.Cond.code ({ cls := "HammockReach", name := "fits", desc := "(IIIII)I" } : Jvm.MethodName) prog_1_method_24_code (7 : Nat) (Option.some Jvm.ClassFile.FieldType.int)) ∈ TT := TT_mem 481 (by decide +kernel) rfl
theorem tw_482 : (Jvm.Cond.methodLink "HammockReach" (206 : Nat) ({ cls := "HammockReach", name := "fittingKinds", desc := "(ILHammockReach$Row;II)I" } : Jvm.MethodName)) ∈ TT := TT_mem 482 (by decide +kernel) rfl
theorem tw_484 : (Jvm.Cond.instanceMethod ({ cls := "HammockReach", name := "fittingKinds", desc := "(ILHammockReach$Row;II)I" } : Jvm.MethodName)) ∈ TT := TT_mem 484 (by decide +kernel) rfl
theorem tw_485 : (Jvm.Cond.code ({ cls := "HammockReach", name := "fittingKinds", desc := "(ILHammockReach$Row;II)I" } : Jvm.MethodName) prog_1_method_41_code (7 : Nat) (Option.some Jvm.ClassFile.FieldType.int)) ∈ TT := TT_mem 485 (by decide +kernel) rfl
theorem tw_486 : (Jvm.Cond.methodLink "HammockReach" (254 : Nat) ({ cls := "HammockReach", name := "wasThere", desc := "(ILHammockReach$Row;II)Z" } : Jvm.MethodName)) ∈ TT := TT_mem 486 (by decide +kernel) rfl
theorem tw_488 : (Jvm.Cond.instanceMethod ({ cls := "HammockReach", name := "wasThere", desc := "(ILHammockReach$Row;II)Z" } : Jvm.MethodName)) ∈ TT := TT_mem 488 (by decide +kernel) rfl
theorem tw_489 : (Jvm.Cond.code ({ cls := "HammockReach", name := "wasThere", desc := "(ILHammockReach$Row;II)Z" } : Jvm.MethodName) prog_1_method_44_code (6 : Nat) (Option.some Jvm.ClassFile.FieldType.boolean)) ∈ TT := TT_mem 489 (by decide +kernel) rfl
theorem tw_490 : (Jvm.Cond.methodLink "HammockReach" (210 : Nat) ({ cls := "HammockReach", name := "fittingSwings", desc := "(ILHammockReach$Row;II)I" } : Jvm.MethodName)) ∈ TT := TT_mem 490 (by decide +kernel) rfl
theorem tw_492 : (Jvm.Cond.instanceMethod ({ cls := "HammockReach", name := "fittingSwings", desc := "(ILHammockReach$Row;II)I" } : Jvm.MethodName)) ∈ TT := TT_mem 492 (by decide +kernel) rfl
theorem tw_493 : (Jvm.Cond.code ({ cls := "HammockReach", name := "fittingSwings", desc := "(ILHammockReach$Row;II)I" } : Jvm.MethodName) prog_1_method_42_code (7 : Nat) (Option.some Jvm.ClassFile.FieldType.int)) ∈ TT := TT_mem 493 (by decide +kernel) rfl
theorem tw_494 : (Jvm.Cond.methodLink "HammockReach" (213 : Nat) ({ cls := "HammockReach", name := "fittingWeights", desc := "(ILHammockReach$Row;II)I" } : Jvm.MethodName)) ∈ TT := TT_mem 494 (by decide +kernel) rfl
theorem tw_496 : (Jvm.Cond.instanceMethod ({ cls := "HammockReach", name := "fittingWeights", desc := "(ILHammockReach$Row;II)I" } : Jvm.MethodName)) ∈ TT := TT_mem 496 (by decide +kernel) rfl
theorem tw_497 : (Jvm.Cond.code ({ cls := "HammockReach", name := "fittingWeights", desc := "(ILHammockReach$Row;II)I" } : Jvm.MethodName) prog_1_method_43_code (7 : Nat) (Option.some Jvm.ClassFile.FieldType.int)) ∈ TT := TT_mem 497 (by decide +kernel) rfl
theorem tw_498 : (Jvm.Cond.methodLink "HammockReach" (258 : Nat) ({ cls := "HammockReach", name := "wasReached", desc := "(ILHammockReach$Row;II)Z" } : Jvm.MethodName)) ∈ TT := TT_mem 498 (by decide +kernel) rfl
theorem tw_500 : (Jvm.Cond.instanceMethod ({ cls := "HammockReach", name := "wasReached", desc := "(ILHammockReach$Row;II)Z" } : Jvm.MethodName)) ∈ TT := TT_mem 500 (by decide +kernel) rfl
theorem tw_501 : (Jvm.Cond.code ({ cls := "HammockReach", name := "wasReached", desc := "(ILHammockReach$Row;II)Z" } : Jvm.MethodName) prog_1_method_45_code (6 : Nat) (Option.some Jvm.ClassFile.FieldType.boolean)) ∈ TT := TT_mem 501 (by decide +kernel) rfl
theorem tw_502 : (Jvm.Cond.methodLink "HammockReachLaw" (111 : Nat) ({ cls := "HammockReach", name := "breaks", desc := "(IIIII)I" } : Jvm.MethodName)) ∈ TT := TT_mem 502 (by decide +kernel) rfl
theorem tw_503 : (Jvm.Cond.instanceMethod ({ cls := "HammockReach", name := "breaks", desc := "(IIIII)I" } : Jvm.MethodName)) ∈ TT := TT_mem 503 (by decide +kernel) rfl
theorem tw_504 : (Jvm.Cond.selects "HammockReach" ({ cls := "HammockReach", name := "breaks", desc := "(IIIII)I" } : Jvm.MethodName) ({ cls := "HammockReach", name := "breaks", desc := "(IIIII)I" } : Jvm.MethodName)) ∈ TT := TT_mem 504 (by decide +kernel) rfl
theorem tw_505 : (Jvm.Cond.code ({ cls := "HammockReach", name := "breaks", desc := "(IIIII)I" } : Jvm.MethodName) prog_1_method_25_code (9 : Nat) (Option.some Jvm.ClassFile.FieldType.int)) ∈ TT := TT_mem 505 (by decide +kernel) rfl
theorem tw_506 : (Jvm.Cond.methodLink "HammockReach" (216 : Nat) ({ cls := "HammockReach", name := "partsOf", desc := "(II)I" } : Jvm.MethodName)) ∈ TT := TT_mem 506 (by decide +kernel) rfl
theorem tw_508 : (Jvm.Cond.instanceMethod ({ cls := "HammockReach", name := "partsOf", desc := "(II)I" } : Jvm.MethodName)) ∈ TT := TT_mem 508 (by decide +kernel) rfl
theorem tw_509 : (Jvm.Cond.code ({ cls := "HammockReach", name := "partsOf", desc := "(II)I" } : Jvm.MethodName) prog_1_method_46_code (5 : Nat) (Option.some Jvm.ClassFile.FieldType.int)) ∈ TT := TT_mem 509 (by decide +kernel) rfl
theorem tw_510 : (Jvm.Cond.methodLink "HammockReach" (219 : Nat) ({ cls := "HammockReach", name := "partsOfAll", desc := "()I" } : Jvm.MethodName)) ∈ TT := TT_mem 510 (by decide +kernel) rfl
theorem tw_512 : (Jvm.Cond.instanceMethod ({ cls := "HammockReach", name := "partsOfAll", desc := "()I" } : Jvm.MethodName)) ∈ TT := TT_mem 512 (by decide +kernel) rfl
theorem tw_513 : (Jvm.Cond.code ({ cls := "HammockReach", name := "partsOfAll", desc := "()I" } : Jvm.MethodName) prog_1_method_47_code (3 : Nat) (Option.some Jvm.ClassFile.FieldType.int)) ∈ TT := TT_mem 513 (by decide +kernel) rfl
theorem tw_514 : (Jvm.Cond.methodLink "HammockReach" (223 : Nat) ({ cls := "HammockReach", name := "commonDivisor", desc := "(II)I" } : Jvm.MethodName)) ∈ TT := TT_mem 514 (by decide +kernel) rfl
theorem tw_515 : (Jvm.Cond.static ({ cls := "HammockReach", name := "commonDivisor", desc := "(II)I" } : Jvm.MethodName)) ∈ TT := TT_mem 515 (by decide +kernel) rfl
theorem tw_516 : (Jvm.Cond.code ({ cls := "HammockReach", name := "commonDivisor", desc := "(II)I" } : Jvm.MethodName) prog_1_method_48_code (6 : Nat) (Option.some Jvm.ClassFile.FieldType.int)) ∈ TT := TT_mem 516 (by decide +kernel) rfl
theorem tw_517 : (Jvm.Cond.methodLink "HammockReachLaw" (115 : Nat) ({ cls := "HammockReach", name := "image", desc := "(I)I" } : Jvm.MethodName)) ∈ TT := TT_mem 517 (by decide +kernel) rfl
theorem tw_518 : (Jvm.Cond.instanceMethod ({ cls := "HammockReach", name := "image", desc := "(I)I" } : Jvm.MethodName)) ∈ TT := TT_mem 518 (by decide +kernel) rfl
theorem tw_519 : (Jvm.Cond.selects "HammockReach" ({ cls := "HammockReach", name := "image", desc := "(I)I" } : Jvm.MethodName) ({ cls := "HammockReach", name := "image", desc := "(I)I" } : Jvm.MethodName)) ∈ TT := TT_mem 519 (by decide +kernel) rfl
theorem tw_520 : (Jvm.Cond.code ({ cls := "HammockReach", name := "image", desc := "(I)I" } : Jvm.MethodName) prog_1_method_26_code (2 : Nat) (Option.some Jvm.ClassFile.FieldType.int)) ∈ TT := TT_mem 520 (by decide +kernel) rfl
theorem tw_521 : (Jvm.Cond.methodLink "HammockReachLaw" (119 : Nat) ({ cls := "HammockReach", name := "restore", desc := "(I)I" } : Jvm.MethodName)) ∈ TT := TT_mem 521 (by decide +kernel) rfl
theorem tw_522 : (Jvm.Cond.instanceMethod ({ cls := "HammockReach", name := "restore", desc := "(I)I" } : Jvm.MethodName)) ∈ TT := TT_mem 522 (by decide +kernel) rfl
theorem tw_523 : (Jvm.Cond.selects "HammockReach" ({ cls := "HammockReach", name := "restore", desc := "(I)I" } : Jvm.MethodName) ({ cls := "HammockReach", name := "restore", desc := "(I)I" } : Jvm.MethodName)) ∈ TT := TT_mem 523 (by decide +kernel) rfl
theorem tw_524 : (Jvm.Cond.code ({ cls := "HammockReach", name := "restore", desc := "(I)I" } : Jvm.MethodName) prog_1_method_27_code (2 : Nat) (Option.some Jvm.ClassFile.FieldType.int)) ∈ TT := TT_mem 524 (by decide +kernel) rfl
theorem tw_525 : (Jvm.Cond.methodLink "HammockReachLaw" (123 : Nat) ({ cls := "HammockReach", name := "kind", desc := "(I)I" } : Jvm.MethodName)) ∈ TT := TT_mem 525 (by decide +kernel) rfl
theorem tw_526 : (Jvm.Cond.instanceMethod ({ cls := "HammockReach", name := "kind", desc := "(I)I" } : Jvm.MethodName)) ∈ TT := TT_mem 526 (by decide +kernel) rfl
theorem tw_527 : (Jvm.Cond.selects "HammockReach" ({ cls := "HammockReach", name := "kind", desc := "(I)I" } : Jvm.MethodName) ({ cls := "HammockReach", name := "kind", desc := "(I)I" } : Jvm.MethodName)) ∈ TT := TT_mem 527 (by decide +kernel) rfl
theorem tw_528 : (Jvm.Cond.code ({ cls := "HammockReach", name := "kind", desc := "(I)I" } : Jvm.MethodName) prog_1_method_28_code (2 : Nat) (Option.some Jvm.ClassFile.FieldType.int)) ∈ TT := TT_mem 528 (by decide +kernel) rfl
theorem tw_529 : (Jvm.Cond.methodLink "HammockReachLaw" (127 : Nat) ({ cls := "HammockReach", name := "as", desc := "(II)I" } : Jvm.MethodName)) ∈ TT := TT_mem 529 (by decide +kernel) rfl
theorem tw_530 : (Jvm.Cond.instanceMethod ({ cls := "HammockReach", name := "as", desc := "(II)I" } : Jvm.MethodName)) ∈ TT := TT_mem 530 (by decide +kernel) rfl
theorem tw_531 : (Jvm.Cond.selects "HammockReach" ({ cls := "HammockReach", name := "as", desc := "(II)I" } : Jvm.MethodName) ({ cls := "HammockReach", name := "as", desc := "(II)I" } : Jvm.MethodName)) ∈ TT := TT_mem 531 (by decide +kernel) rfl
theorem tw_532 : (Jvm.Cond.code ({ cls := "HammockReach", name := "as", desc := "(II)I" } : Jvm.MethodName) prog_1_method_29_code (3 : Nat) (Option.some Jvm.ClassFile.FieldType.int)) ∈ TT := TT_mem 532 (by decide +kernel) rfl
theorem tw_533 : (Jvm.Cond.methodLink "HammockReach" (229 : Nat) ({ cls := "HammockReach", name := "isOfKind", desc := "(II)Z" } : Jvm.MethodName)) ∈ TT := TT_mem 533 (by decide +kernel) rfl
theorem tw_534 : (Jvm.Cond.static ({ cls := "HammockReach", name := "isOfKind", desc := "(II)Z" } : Jvm.MethodName)) ∈ TT := TT_mem 534 (by decide +kernel) rfl
theorem tw_535 : (Jvm.Cond.code ({ cls := "HammockReach", name := "isOfKind", desc := "(II)Z" } : Jvm.MethodName) prog_1_method_49_code (4 : Nat) (Option.some Jvm.ClassFile.FieldType.boolean)) ∈ TT := TT_mem 535 (by decide +kernel) rfl
theorem tw_536 : (Jvm.Cond.fieldLink "HammockReach" (261 : Nat) "HammockReach" "ABOVE" "[I") ∈ TT := TT_mem 536 (by decide +kernel) rfl
theorem tw_538 : (Jvm.Cond.methodLink "HammockReachLaw" (131 : Nat) ({ cls := "HammockReach", name := "ask", desc := "(II)I" } : Jvm.MethodName)) ∈ TT := TT_mem 538 (by decide +kernel) rfl
theorem tw_539 : (Jvm.Cond.instanceMethod ({ cls := "HammockReach", name := "ask", desc := "(II)I" } : Jvm.MethodName)) ∈ TT := TT_mem 539 (by decide +kernel) rfl
theorem tw_540 : (Jvm.Cond.selects "HammockReach" ({ cls := "HammockReach", name := "ask", desc := "(II)I" } : Jvm.MethodName) ({ cls := "HammockReach", name := "ask", desc := "(II)I" } : Jvm.MethodName)) ∈ TT := TT_mem 540 (by decide +kernel) rfl
theorem tw_541 : (Jvm.Cond.code ({ cls := "HammockReach", name := "ask", desc := "(II)I" } : Jvm.MethodName) prog_1_method_30_code (3 : Nat) (Option.some Jvm.ClassFile.FieldType.int)) ∈ TT := TT_mem 541 (by decide +kernel) rfl
theorem tw_542 : (Jvm.Cond.methodLink "HammockReach" (235 : Nat) ({ cls := "HammockReach", name := "answer", desc := "(III)I" } : Jvm.MethodName)) ∈ TT := TT_mem 542 (by decide +kernel) rfl
theorem tw_544 : (Jvm.Cond.instanceMethod ({ cls := "HammockReach", name := "answer", desc := "(III)I" } : Jvm.MethodName)) ∈ TT := TT_mem 544 (by decide +kernel) rfl
theorem tw_545 : (Jvm.Cond.code ({ cls := "HammockReach", name := "answer", desc := "(III)I" } : Jvm.MethodName) prog_1_method_51_code (4 : Nat) (Option.some Jvm.ClassFile.FieldType.int)) ∈ TT := TT_mem 545 (by decide +kernel) rfl
theorem tw_546 : (Jvm.Cond.methodLink "HammockReach" (270 : Nat) ({ cls := "HammockReach", name := "nearestBody", desc := "(II)I" } : Jvm.MethodName)) ∈ TT := TT_mem 546 (by decide +kernel) rfl
theorem tw_547 : (Jvm.Cond.static ({ cls := "HammockReach", name := "nearestBody", desc := "(II)I" } : Jvm.MethodName)) ∈ TT := TT_mem 547 (by decide +kernel) rfl
theorem tw_548 : (Jvm.Cond.code ({ cls := "HammockReach", name := "nearestBody", desc := "(II)I" } : Jvm.MethodName) prog_1_method_50_code (5 : Nat) (Option.some Jvm.ClassFile.FieldType.int)) ∈ TT := TT_mem 548 (by decide +kernel) rfl
theorem tw_549 : (Jvm.Cond.fieldLink "HammockReach" (264 : Nat) "HammockReach" "SIZE_BODIES" "[I") ∈ TT := TT_mem 549 (by decide +kernel) rfl
theorem tw_551 : (Jvm.Cond.fieldLink "HammockReach" (267 : Nat) "HammockReach" "MARK_BODIES" "[I") ∈ TT := TT_mem 551 (by decide +kernel) rfl
theorem tw_553 : (Jvm.Cond.methodLink "HammockReach" (273 : Nat) ({ cls := "HammockReach", name := "body", desc := "(III)I" } : Jvm.MethodName)) ∈ TT := TT_mem 553 (by decide +kernel) rfl
theorem tw_555 : (Jvm.Cond.instanceMethod ({ cls := "HammockReach", name := "body", desc := "(III)I" } : Jvm.MethodName)) ∈ TT := TT_mem 555 (by decide +kernel) rfl
theorem tw_556 : (Jvm.Cond.code ({ cls := "HammockReach", name := "body", desc := "(III)I" } : Jvm.MethodName) prog_1_method_52_code (5 : Nat) (Option.some Jvm.ClassFile.FieldType.int)) ∈ TT := TT_mem 556 (by decide +kernel) rfl
theorem tw_557 : (Jvm.Cond.methodLink "HammockReachLaw" (135 : Nat) ({ cls := "HammockReach", name := "trace", desc := "(I)I" } : Jvm.MethodName)) ∈ TT := TT_mem 557 (by decide +kernel) rfl
theorem tw_558 : (Jvm.Cond.instanceMethod ({ cls := "HammockReach", name := "trace", desc := "(I)I" } : Jvm.MethodName)) ∈ TT := TT_mem 558 (by decide +kernel) rfl
theorem tw_559 : (Jvm.Cond.selects "HammockReach" ({ cls := "HammockReach", name := "trace", desc := "(I)I" } : Jvm.MethodName) ({ cls := "HammockReach", name := "trace", desc := "(I)I" } : Jvm.MethodName)) ∈ TT := TT_mem 559 (by decide +kernel) rfl
theorem tw_560 : (Jvm.Cond.code ({ cls := "HammockReach", name := "trace", desc := "(I)I" } : Jvm.MethodName) prog_1_method_31_code (2 : Nat) (Option.some Jvm.ClassFile.FieldType.int)) ∈ TT := TT_mem 560 (by decide +kernel) rfl
theorem tw_561 : (Jvm.Cond.methodLink "HammockReachLaw" (139 : Nat) ({ cls := "HammockReach", name := "count", desc := "(I)I" } : Jvm.MethodName)) ∈ TT := TT_mem 561 (by decide +kernel) rfl
theorem tw_562 : (Jvm.Cond.instanceMethod ({ cls := "HammockReach", name := "count", desc := "(I)I" } : Jvm.MethodName)) ∈ TT := TT_mem 562 (by decide +kernel) rfl
theorem tw_563 : (Jvm.Cond.selects "HammockReach" ({ cls := "HammockReach", name := "count", desc := "(I)I" } : Jvm.MethodName) ({ cls := "HammockReach", name := "count", desc := "(I)I" } : Jvm.MethodName)) ∈ TT := TT_mem 563 (by decide +kernel) rfl
theorem tw_564 : (Jvm.Cond.code ({ cls := "HammockReach", name := "count", desc := "(I)I" } : Jvm.MethodName) prog_1_method_32_code (2 : Nat) (Option.some Jvm.ClassFile.FieldType.int)) ∈ TT := TT_mem 564 (by decide +kernel) rfl
theorem tw_565 : (Jvm.Cond.methodLink "HammockReach" (239 : Nat) ({ cls := "HammockReach", name := "countRows", desc := "()I" } : Jvm.MethodName)) ∈ TT := TT_mem 565 (by decide +kernel) rfl
theorem tw_567 : (Jvm.Cond.instanceMethod ({ cls := "HammockReach", name := "countRows", desc := "()I" } : Jvm.MethodName)) ∈ TT := TT_mem 567 (by decide +kernel) rfl
theorem tw_568 : (Jvm.Cond.code ({ cls := "HammockReach", name := "countRows", desc := "()I" } : Jvm.MethodName) prog_1_method_40_code (3 : Nat) (Option.some Jvm.ClassFile.FieldType.int)) ∈ TT := TT_mem 568 (by decide +kernel) rfl
theorem tw_569 : (Jvm.Cond.methodLink "HammockReach" (248 : Nat) ({ cls := "java/lang/Integer", name := "bitCount", desc := "(I)I" } : Jvm.MethodName)) ∈ TT := TT_mem 569 (by decide +kernel) rfl
theorem tw_570 : (Jvm.Cond.static ({ cls := "java/lang/Integer", name := "bitCount", desc := "(I)I" } : Jvm.MethodName)) ∈ TT := TT_mem 570 (by decide +kernel) rfl
theorem tw_571 : (Jvm.Cond.code ({ cls := "java/lang/Integer", name := "bitCount", desc := "(I)I" } : Jvm.MethodName) prog_9_method_49_code (1 : Nat) (Option.some Jvm.ClassFile.FieldType.int)) ∈ TT := TT_mem 571 (by decide +kernel) rfl
theorem tw_572 : (Jvm.Cond.constant "java/lang/Integer" (265 : Nat) (1431655765 : Int32)) ∈ TT := TT_mem 572 (by decide +kernel) rfl
theorem tw_573 : (Jvm.Cond.constant "java/lang/Integer" (266 : Nat) (858993459 : Int32)) ∈ TT := TT_mem 573 (by decide +kernel) rfl
theorem tw_574 : (Jvm.Cond.constant "java/lang/Integer" (267 : Nat) (252645135 : Int32)) ∈ TT := TT_mem 574 (by decide +kernel) rfl
theorem tw_575 : (Jvm.Cond.methodLink "HammockReachLaw" (143 : Nat) ({ cls := "HammockReach", name := "status", desc := "()I" } : Jvm.MethodName)) ∈ TT := TT_mem 575 (by decide +kernel) rfl
theorem tw_576 : (Jvm.Cond.instanceMethod ({ cls := "HammockReach", name := "status", desc := "()I" } : Jvm.MethodName)) ∈ TT := TT_mem 576 (by decide +kernel) rfl
theorem tw_577 : (Jvm.Cond.selects "HammockReach" ({ cls := "HammockReach", name := "status", desc := "()I" } : Jvm.MethodName) ({ cls := "HammockReach", name := "status", desc := "()I" } : Jvm.MethodName)) ∈ TT := TT_mem 577 (by decide +kernel) rfl
theorem tw_578 : (Jvm.Cond.code ({ cls := "HammockReach", name := "status", desc := "()I" } : Jvm.MethodName) prog_1_method_33_code (1 : Nat) (Option.some Jvm.ClassFile.FieldType.int)) ∈ TT := TT_mem 578 (by decide +kernel) rfl
theorem tw_579 : (Jvm.Cond.classLink "HammockReachLaw" (10 : Nat) "HammockReachModel") ∈ TT := TT_mem 579 (by decide +kernel) rfl
theorem tw_580 : (Jvm.Cond.instantiable "HammockReachModel" (23 : Nat)) ∈ TT := TT_mem 580 (by decide +kernel) rfl
theorem tw_581 : (Jvm.Cond.methodLink "HammockReachLaw" (12 : Nat) ({ cls := "HammockReachModel", name := "<init>", desc := "()V" } : Jvm.MethodName)) ∈ TT := TT_mem 581 (by decide +kernel) rfl
theorem tw_582 : (Jvm.Cond.instanceMethod ({ cls := "HammockReachModel", name := "<init>", desc := "()V" } : Jvm.MethodName)) ∈ TT := TT_mem 582 (by decide +kernel) rfl
theorem tw_583 : (Jvm.Cond.code ({ cls := "HammockReachModel", name := "<init>", desc := "()V" } : Jvm.MethodName) prog_8_method_1_code (2 : Nat) (Option.none : Option Jvm.ClassFile.FieldType)) ∈ TT := TT_mem 583 (by decide +kernel) rfl
theorem tw_584 : (Jvm.Cond.methodLink "HammockReachModel" (1 : Nat) ({ cls := "java/lang/Object", name := "<init>", desc := "()V" } : Jvm.MethodName)) ∈ TT := TT_mem 584 (by decide +kernel) rfl
theorem tw_585 : (Jvm.Cond.fieldLink "HammockReachModel" (7 : Nat) "HammockReachModel" "lanes" "[I") ∈ TT := TT_mem 585 (by decide +kernel) rfl
theorem tw_586 : (Jvm.Cond.fieldLink "HammockReachModel" (13 : Nat) "HammockReachModel" "sizes" "[I") ∈ TT := TT_mem 586 (by decide +kernel) rfl
theorem tw_587 : (Jvm.Cond.fieldLink "HammockReachModel" (16 : Nat) "HammockReachModel" "items" "[I") ∈ TT := TT_mem 587 (by decide +kernel) rfl
theorem tw_588 : (Jvm.Cond.fieldLink "HammockReachModel" (50 : Nat) "HammockReachModel" "status" "I") ∈ TT := TT_mem 588 (by decide +kernel) rfl
theorem tw_589 : (Jvm.Cond.fieldLink "HammockReachModel" (19 : Nat) "HammockReachModel" "now" "[I") ∈ TT := TT_mem 589 (by decide +kernel) rfl
theorem tw_590 : (Jvm.Cond.fieldLink "HammockReachModel" (22 : Nat) "HammockReachModel" "read" "[I") ∈ TT := TT_mem 590 (by decide +kernel) rfl
theorem tw_591 : (Jvm.Cond.fieldLink "HammockReachModel" (25 : Nat) "HammockReachModel" "aside" "[I") ∈ TT := TT_mem 591 (by decide +kernel) rfl
theorem tw_592 : (Jvm.Cond.fieldLink "HammockReachModel" (28 : Nat) "HammockReachModel" "past" "[I") ∈ TT := TT_mem 592 (by decide +kernel) rfl
theorem tw_593 : (Jvm.Cond.fieldLink "HammockReachModel" (136 : Nat) "HammockReachModel" "acts" "I") ∈ TT := TT_mem 593 (by decide +kernel) rfl
theorem tw_594 : (Jvm.Cond.fieldLink "HammockReachModel" (31 : Nat) "HammockReachModel" "images" "[I") ∈ TT := TT_mem 594 (by decide +kernel) rfl
theorem tw_595 : (Jvm.Cond.fieldLink "HammockReachModel" (34 : Nat) "HammockReachModel" "kept" "[Z") ∈ TT := TT_mem 595 (by decide +kernel) rfl
theorem tw_596 : (Jvm.Cond.fieldLink "HammockReachModel" (38 : Nat) "HammockReachModel" "tape" "[I") ∈ TT := TT_mem 596 (by decide +kernel) rfl
theorem tw_597 : (Jvm.Cond.fieldLink "HammockReachModel" (77 : Nat) "HammockReachModel" "size" "I") ∈ TT := TT_mem 597 (by decide +kernel) rfl
theorem tw_598 : (Jvm.Cond.fieldLink "HammockReachModel" (128 : Nat) "HammockReachModel" "fault" "I") ∈ TT := TT_mem 598 (by decide +kernel) rfl
theorem tw_599 : (Jvm.Cond.fieldLink "HammockReachModel" (41 : Nat) "HammockReachModel" "trace" "[I") ∈ TT := TT_mem 599 (by decide +kernel) rfl
theorem tw_600 : (Jvm.Cond.fieldLink "HammockReachModel" (218 : Nat) "HammockReachModel" "traced" "I") ∈ TT := TT_mem 600 (by decide +kernel) rfl
theorem tw_601 : (Jvm.Cond.fieldLink "HammockReachModel" (81 : Nat) "HammockReachModel" "at" "I") ∈ TT := TT_mem 601 (by decide +kernel) rfl
theorem tw_602 : (Jvm.Cond.fieldLink "HammockReachModel" (84 : Nat) "HammockReachModel" "begin" "I") ∈ TT := TT_mem 602 (by decide +kernel) rfl
theorem tw_603 : (Jvm.Cond.fieldLink "HammockReachModel" (102 : Nat) "HammockReachModel" "token" "I") ∈ TT := TT_mem 603 (by decide +kernel) rfl
theorem tw_604 : (Jvm.Cond.fieldLink "HammockReachModel" (91 : Nat) "HammockReachModel" "value" "I") ∈ TT := TT_mem 604 (by decide +kernel) rfl
theorem tw_605 : (Jvm.Cond.fieldLink "HammockReachModel" (105 : Nat) "HammockReachModel" "wrong" "I") ∈ TT := TT_mem 605 (by decide +kernel) rfl
theorem tw_606 : (Jvm.Cond.fieldLink "HammockReachModel" (44 : Nat) "HammockReachModel" "given" "[I") ∈ TT := TT_mem 606 (by decide +kernel) rfl
theorem tw_607 : (Jvm.Cond.fieldLink "HammockReachModel" (47 : Nat) "HammockReachModel" "then" "[I") ∈ TT := TT_mem 607 (by decide +kernel) rfl
theorem tw_655 : (Jvm.Cond.arrayClass Jvm.ClassFile.FieldType.boolean) ∈ TT := TT_mem 655 (by decide +kernel) rfl
theorem tw_656 : (Jvm.Cond.methodLink "HammockReachLaw" (17 : Nat) ({ cls := "HammockReachModel", name := "row", desc := "(III)I" } : Jvm.MethodName)) ∈ TT := TT_mem 656 (by decide +kernel) rfl
theorem tw_657 : (Jvm.Cond.instanceMethod ({ cls := "HammockReachModel", name := "row", desc := "(III)I" } : Jvm.MethodName)) ∈ TT := TT_mem 657 (by decide +kernel) rfl
theorem tw_658 : (Jvm.Cond.selects "HammockReachModel" ({ cls := "HammockReachModel", name := "row", desc := "(III)I" } : Jvm.MethodName) ({ cls := "HammockReachModel", name := "row", desc := "(III)I" } : Jvm.MethodName)) ∈ TT := TT_mem 658 (by decide +kernel) rfl
theorem tw_659 : (Jvm.Cond.code ({ cls := "HammockReachModel", name := "row", desc := "(III)I" } : Jvm.MethodName) prog_8_method_7_code (5 : Nat) (Option.some Jvm.ClassFile.FieldType.int)) ∈ TT := TT_mem 659 (by decide +kernel) rfl
theorem tw_660 : (Jvm.Cond.methodLink "HammockReachModel" (61 : Nat) ({ cls := "HammockReachModel", name := "isRow", desc := "(I)Z" } : Jvm.MethodName)) ∈ TT := TT_mem 660 (by decide +kernel) rfl
theorem tw_661 : (Jvm.Cond.static ({ cls := "HammockReachModel", name := "isRow", desc := "(I)Z" } : Jvm.MethodName)) ∈ TT := TT_mem 661 (by decide +kernel) rfl
theorem tw_662 : (Jvm.Cond.code ({ cls := "HammockReachModel", name := "isRow", desc := "(I)Z" } : Jvm.MethodName) prog_8_method_6_code (1 : Nat) (Option.some Jvm.ClassFile.FieldType.boolean)) ∈ TT := TT_mem 662 (by decide +kernel) rfl
theorem tw_663 : (Jvm.Cond.constantLong "HammockReachModel" (55 : Nat) (7 : Int64)) ∈ TT := TT_mem 663 (by decide +kernel) rfl
theorem tw_664 : (Jvm.Cond.methodLink "HammockReachModel" (57 : Nat) ({ cls := "HammockReachModel", name := "in", desc := "(JJJ)Z" } : Jvm.MethodName)) ∈ TT := TT_mem 664 (by decide +kernel) rfl
theorem tw_665 : (Jvm.Cond.static ({ cls := "HammockReachModel", name := "in", desc := "(JJJ)Z" } : Jvm.MethodName)) ∈ TT := TT_mem 665 (by decide +kernel) rfl
theorem tw_666 : (Jvm.Cond.code ({ cls := "HammockReachModel", name := "in", desc := "(JJJ)Z" } : Jvm.MethodName) prog_8_method_3_code (6 : Nat) (Option.some Jvm.ClassFile.FieldType.boolean)) ∈ TT := TT_mem 666 (by decide +kernel) rfl
theorem tw_667 : (Jvm.Cond.constantLong "HammockReachModel" (65 : Nat) (2 : Int64)) ∈ TT := TT_mem 667 (by decide +kernel) rfl
theorem tw_668 : (Jvm.Cond.constant "HammockReachModel" (67 : Nat) (-1000001 : Int32)) ∈ TT := TT_mem 668 (by decide +kernel) rfl
theorem tw_669 : (Jvm.Cond.methodLink "HammockReachModel" (68 : Nat) ({ cls := "HammockReachModel", name := "found", desc := "(I)I" } : Jvm.MethodName)) ∈ TT := TT_mem 669 (by decide +kernel) rfl
theorem tw_671 : (Jvm.Cond.instanceMethod ({ cls := "HammockReachModel", name := "found", desc := "(I)I" } : Jvm.MethodName)) ∈ TT := TT_mem 671 (by decide +kernel) rfl
theorem tw_672 : (Jvm.Cond.code ({ cls := "HammockReachModel", name := "found", desc := "(I)I" } : Jvm.MethodName) prog_8_method_4_code (2 : Nat) (Option.some Jvm.ClassFile.FieldType.int)) ∈ TT := TT_mem 672 (by decide +kernel) rfl
theorem tw_673 : (Jvm.Cond.constant "HammockReachModel" (54 : Nat) (-1000010 : Int32)) ∈ TT := TT_mem 673 (by decide +kernel) rfl
theorem tw_674 : (Jvm.Cond.methodLink "HammockReachModel" (72 : Nat) ({ cls := "HammockReachModel", name := "well", desc := "(I)I" } : Jvm.MethodName)) ∈ TT := TT_mem 674 (by decide +kernel) rfl
theorem tw_676 : (Jvm.Cond.instanceMethod ({ cls := "HammockReachModel", name := "well", desc := "(I)I" } : Jvm.MethodName)) ∈ TT := TT_mem 676 (by decide +kernel) rfl
theorem tw_677 : (Jvm.Cond.code ({ cls := "HammockReachModel", name := "well", desc := "(I)I" } : Jvm.MethodName) prog_8_method_5_code (2 : Nat) (Option.some Jvm.ClassFile.FieldType.int)) ∈ TT := TT_mem 677 (by decide +kernel) rfl
theorem tw_678 : (Jvm.Cond.methodLink "HammockReachLaw" (21 : Nat) ({ cls := "HammockReachModel", name := "set", desc := "(III)I" } : Jvm.MethodName)) ∈ TT := TT_mem 678 (by decide +kernel) rfl
theorem tw_679 : (Jvm.Cond.instanceMethod ({ cls := "HammockReachModel", name := "set", desc := "(III)I" } : Jvm.MethodName)) ∈ TT := TT_mem 679 (by decide +kernel) rfl
theorem tw_680 : (Jvm.Cond.selects "HammockReachModel" ({ cls := "HammockReachModel", name := "set", desc := "(III)I" } : Jvm.MethodName) ({ cls := "HammockReachModel", name := "set", desc := "(III)I" } : Jvm.MethodName)) ∈ TT := TT_mem 680 (by decide +kernel) rfl
theorem tw_681 : (Jvm.Cond.code ({ cls := "HammockReachModel", name := "set", desc := "(III)I" } : Jvm.MethodName) prog_8_method_8_code (4 : Nat) (Option.some Jvm.ClassFile.FieldType.int)) ∈ TT := TT_mem 681 (by decide +kernel) rfl
theorem tw_682 : (Jvm.Cond.methodLink "HammockReachLaw" (26 : Nat) ({ cls := "HammockReachModel", name := "copy", desc := "(IIIII)I" } : Jvm.MethodName)) ∈ TT := TT_mem 682 (by decide +kernel) rfl
theorem tw_683 : (Jvm.Cond.instanceMethod ({ cls := "HammockReachModel", name := "copy", desc := "(IIIII)I" } : Jvm.MethodName)) ∈ TT := TT_mem 683 (by decide +kernel) rfl
theorem tw_684 : (Jvm.Cond.selects "HammockReachModel" ({ cls := "HammockReachModel", name := "copy", desc := "(IIIII)I" } : Jvm.MethodName) ({ cls := "HammockReachModel", name := "copy", desc := "(IIIII)I" } : Jvm.MethodName)) ∈ TT := TT_mem 684 (by decide +kernel) rfl
theorem tw_685 : (Jvm.Cond.code ({ cls := "HammockReachModel", name := "copy", desc := "(IIIII)I" } : Jvm.MethodName) prog_8_method_9_code (8 : Nat) (Option.some Jvm.ClassFile.FieldType.int)) ∈ TT := TT_mem 685 (by decide +kernel) rfl
theorem tw_686 : (Jvm.Cond.methodLink "HammockReachLaw" (31 : Nat) ({ cls := "HammockReachModel", name := "drop", desc := "(I)I" } : Jvm.MethodName)) ∈ TT := TT_mem 686 (by decide +kernel) rfl
theorem tw_687 : (Jvm.Cond.instanceMethod ({ cls := "HammockReachModel", name := "drop", desc := "(I)I" } : Jvm.MethodName)) ∈ TT := TT_mem 687 (by decide +kernel) rfl
theorem tw_688 : (Jvm.Cond.selects "HammockReachModel" ({ cls := "HammockReachModel", name := "drop", desc := "(I)I" } : Jvm.MethodName) ({ cls := "HammockReachModel", name := "drop", desc := "(I)I" } : Jvm.MethodName)) ∈ TT := TT_mem 688 (by decide +kernel) rfl
theorem tw_689 : (Jvm.Cond.code ({ cls := "HammockReachModel", name := "drop", desc := "(I)I" } : Jvm.MethodName) prog_8_method_10_code (3 : Nat) (Option.some Jvm.ClassFile.FieldType.int)) ∈ TT := TT_mem 689 (by decide +kernel) rfl
theorem tw_690 : (Jvm.Cond.methodLink "HammockReachLaw" (35 : Nat) ({ cls := "HammockReachModel", name := "feed", desc := "(I)I" } : Jvm.MethodName)) ∈ TT := TT_mem 690 (by decide +kernel) rfl
theorem tw_691 : (Jvm.Cond.instanceMethod ({ cls := "HammockReachModel", name := "feed", desc := "(I)I" } : Jvm.MethodName)) ∈ TT := TT_mem 691 (by decide +kernel) rfl
theorem tw_692 : (Jvm.Cond.selects "HammockReachModel" ({ cls := "HammockReachModel", name := "feed", desc := "(I)I" } : Jvm.MethodName) ({ cls := "HammockReachModel", name := "feed", desc := "(I)I" } : Jvm.MethodName)) ∈ TT := TT_mem 692 (by decide +kernel) rfl
theorem tw_693 : (Jvm.Cond.code ({ cls := "HammockReachModel", name := "feed", desc := "(I)I" } : Jvm.MethodName) prog_8_method_11_code (2 : Nat) (Option.some Jvm.ClassFile.FieldType.int)) ∈ TT := TT_mem 693 (by decide +kernel) rfl
theorem tw_694 : (Jvm.Cond.constantLong "HammockReachModel" (75 : Nat) (255 : Int64)) ∈ TT := TT_mem 694 (by decide +kernel) rfl
theorem tw_695 : (Jvm.Cond.constant "HammockReachModel" (80 : Nat) (-1000003 : Int32)) ∈ TT := TT_mem 695 (by decide +kernel) rfl
theorem tw_696 : (Jvm.Cond.methodLink "HammockReachLaw" (40 : Nat) ({ cls := "HammockReachModel", name := "forest", desc := "()I" } : Jvm.MethodName)) ∈ TT := TT_mem 696 (by decide +kernel) rfl
theorem tw_697 : (Jvm.Cond.instanceMethod ({ cls := "HammockReachModel", name := "forest", desc := "()I" } : Jvm.MethodName)) ∈ TT := TT_mem 697 (by decide +kernel) rfl
theorem tw_698 : (Jvm.Cond.selects "HammockReachModel" ({ cls := "HammockReachModel", name := "forest", desc := "()I" } : Jvm.MethodName) ({ cls := "HammockReachModel", name := "forest", desc := "()I" } : Jvm.MethodName)) ∈ TT := TT_mem 698 (by decide +kernel) rfl
theorem tw_699 : (Jvm.Cond.code ({ cls := "HammockReachModel", name := "forest", desc := "()I" } : Jvm.MethodName) prog_8_method_19_code (2 : Nat) (Option.some Jvm.ClassFile.FieldType.int)) ∈ TT := TT_mem 699 (by decide +kernel) rfl
theorem tw_700 : (Jvm.Cond.methodLink "HammockReachModel" (125 : Nat) ({ cls := "HammockReachModel", name := "reads", desc := "()Z" } : Jvm.MethodName)) ∈ TT := TT_mem 700 (by decide +kernel) rfl
theorem tw_702 : (Jvm.Cond.instanceMethod ({ cls := "HammockReachModel", name := "reads", desc := "()Z" } : Jvm.MethodName)) ∈ TT := TT_mem 702 (by decide +kernel) rfl
theorem tw_703 : (Jvm.Cond.code ({ cls := "HammockReachModel", name := "reads", desc := "()Z" } : Jvm.MethodName) prog_8_method_18_code (2 : Nat) (Option.some Jvm.ClassFile.FieldType.boolean)) ∈ TT := TT_mem 703 (by decide +kernel) rfl
theorem tw_704 : (Jvm.Cond.methodLink "HammockReachModel" (108 : Nat) ({ cls := "HammockReachModel", name := "step", desc := "()V" } : Jvm.MethodName)) ∈ TT := TT_mem 704 (by decide +kernel) rfl
theorem tw_706 : (Jvm.Cond.instanceMethod ({ cls := "HammockReachModel", name := "step", desc := "()V" } : Jvm.MethodName)) ∈ TT := TT_mem 706 (by decide +kernel) rfl
theorem tw_707 : (Jvm.Cond.code ({ cls := "HammockReachModel", name := "step", desc := "()V" } : Jvm.MethodName) prog_8_method_13_code (1 : Nat) (Option.none : Option Jvm.ClassFile.FieldType)) ∈ TT := TT_mem 707 (by decide +kernel) rfl
theorem tw_708 : (Jvm.Cond.methodLink "HammockReachModel" (87 : Nat) ({ cls := "HammockReachModel", name := "here", desc := "()I" } : Jvm.MethodName)) ∈ TT := TT_mem 708 (by decide +kernel) rfl
theorem tw_710 : (Jvm.Cond.instanceMethod ({ cls := "HammockReachModel", name := "here", desc := "()I" } : Jvm.MethodName)) ∈ TT := TT_mem 710 (by decide +kernel) rfl
theorem tw_711 : (Jvm.Cond.code ({ cls := "HammockReachModel", name := "here", desc := "()I" } : Jvm.MethodName) prog_8_method_12_code (1 : Nat) (Option.some Jvm.ClassFile.FieldType.int)) ∈ TT := TT_mem 711 (by decide +kernel) rfl
theorem tw_712 : (Jvm.Cond.constantLong "HammockReachModel" (94 : Nat) (97 : Int64)) ∈ TT := TT_mem 712 (by decide +kernel) rfl
theorem tw_713 : (Jvm.Cond.constantLong "HammockReachModel" (96 : Nat) (122 : Int64)) ∈ TT := TT_mem 713 (by decide +kernel) rfl
theorem tw_714 : (Jvm.Cond.constantLong "HammockReachModel" (98 : Nat) (48 : Int64)) ∈ TT := TT_mem 714 (by decide +kernel) rfl
theorem tw_715 : (Jvm.Cond.constantLong "HammockReachModel" (100 : Nat) (57 : Int64)) ∈ TT := TT_mem 715 (by decide +kernel) rfl
theorem tw_716 : (Jvm.Cond.methodLink "HammockReachModel" (111 : Nat) ({ cls := "HammockReachModel", name := "fails", desc := "(I)Z" } : Jvm.MethodName)) ∈ TT := TT_mem 716 (by decide +kernel) rfl
theorem tw_718 : (Jvm.Cond.instanceMethod ({ cls := "HammockReachModel", name := "fails", desc := "(I)Z" } : Jvm.MethodName)) ∈ TT := TT_mem 718 (by decide +kernel) rfl
theorem tw_719 : (Jvm.Cond.code ({ cls := "HammockReachModel", name := "fails", desc := "(I)Z" } : Jvm.MethodName) prog_8_method_14_code (2 : Nat) (Option.some Jvm.ClassFile.FieldType.boolean)) ∈ TT := TT_mem 719 (by decide +kernel) rfl
theorem tw_720 : (Jvm.Cond.methodLink "HammockReachModel" (117 : Nat) ({ cls := "HammockReachModel", name := "number", desc := "(IIII)Z" } : Jvm.MethodName)) ∈ TT := TT_mem 720 (by decide +kernel) rfl
theorem tw_722 : (Jvm.Cond.instanceMethod ({ cls := "HammockReachModel", name := "number", desc := "(IIII)Z" } : Jvm.MethodName)) ∈ TT := TT_mem 722 (by decide +kernel) rfl
theorem tw_723 : (Jvm.Cond.code ({ cls := "HammockReachModel", name := "number", desc := "(IIII)Z" } : Jvm.MethodName) prog_8_method_15_code (5 : Nat) (Option.some Jvm.ClassFile.FieldType.boolean)) ∈ TT := TT_mem 723 (by decide +kernel) rfl
theorem tw_724 : (Jvm.Cond.methodLink "HammockReachModel" (121 : Nat) ({ cls := "HammockReachModel", name := "readsHammock", desc := "()Z" } : Jvm.MethodName)) ∈ TT := TT_mem 724 (by decide +kernel) rfl
theorem tw_726 : (Jvm.Cond.instanceMethod ({ cls := "HammockReachModel", name := "readsHammock", desc := "()Z" } : Jvm.MethodName)) ∈ TT := TT_mem 726 (by decide +kernel) rfl
theorem tw_727 : (Jvm.Cond.code ({ cls := "HammockReachModel", name := "readsHammock", desc := "()Z" } : Jvm.MethodName) prog_8_method_17_code (3 : Nat) (Option.some Jvm.ClassFile.FieldType.boolean)) ∈ TT := TT_mem 727 (by decide +kernel) rfl
theorem tw_728 : (Jvm.Cond.methodLink "HammockReachModel" (114 : Nat) ({ cls := "HammockReachModel", name := "sortOf", desc := "(I)I" } : Jvm.MethodName)) ∈ TT := TT_mem 728 (by decide +kernel) rfl
theorem tw_729 : (Jvm.Cond.static ({ cls := "HammockReachModel", name := "sortOf", desc := "(I)I" } : Jvm.MethodName)) ∈ TT := TT_mem 729 (by decide +kernel) rfl
theorem tw_730 : (Jvm.Cond.code ({ cls := "HammockReachModel", name := "sortOf", desc := "(I)I" } : Jvm.MethodName) prog_8_method_16_code (1 : Nat) (Option.some Jvm.ClassFile.FieldType.int)) ∈ TT := TT_mem 730 (by decide +kernel) rfl
theorem tw_731 : (Jvm.Cond.constant "HammockReachModel" (131 : Nat) (-1000100 : Int32)) ∈ TT := TT_mem 731 (by decide +kernel) rfl
theorem tw_732 : (Jvm.Cond.methodLink "HammockReachModel" (132 : Nat) ({ cls := "HammockReachModel", name := "copies", desc := "([II[II)V" } : Jvm.MethodName)) ∈ TT := TT_mem 732 (by decide +kernel) rfl
theorem tw_733 : (Jvm.Cond.static ({ cls := "HammockReachModel", name := "copies", desc := "([II[II)V" } : Jvm.MethodName)) ∈ TT := TT_mem 733 (by decide +kernel) rfl
theorem tw_734 : (Jvm.Cond.code ({ cls := "HammockReachModel", name := "copies", desc := "([II[II)V" } : Jvm.MethodName) prog_8_method_21_code (5 : Nat) (Option.none : Option Jvm.ClassFile.FieldType)) ∈ TT := TT_mem 734 (by decide +kernel) rfl
theorem tw_735 : (Jvm.Cond.methodLink "HammockReachLaw" (44 : Nat) ({ cls := "HammockReachModel", name := "fault", desc := "()I" } : Jvm.MethodName)) ∈ TT := TT_mem 735 (by decide +kernel) rfl
theorem tw_736 : (Jvm.Cond.instanceMethod ({ cls := "HammockReachModel", name := "fault", desc := "()I" } : Jvm.MethodName)) ∈ TT := TT_mem 736 (by decide +kernel) rfl
theorem tw_737 : (Jvm.Cond.selects "HammockReachModel" ({ cls := "HammockReachModel", name := "fault", desc := "()I" } : Jvm.MethodName) ({ cls := "HammockReachModel", name := "fault", desc := "()I" } : Jvm.MethodName)) ∈ TT := TT_mem 737 (by decide +kernel) rfl
theorem tw_738 : (Jvm.Cond.code ({ cls := "HammockReachModel", name := "fault", desc := "()I" } : Jvm.MethodName) prog_8_method_20_code (1 : Nat) (Option.some Jvm.ClassFile.FieldType.int)) ∈ TT := TT_mem 738 (by decide +kernel) rfl
theorem tw_739 : (Jvm.Cond.methodLink "HammockReachLaw" (48 : Nat) ({ cls := "HammockReachModel", name := "minutes", desc := "(I)I" } : Jvm.MethodName)) ∈ TT := TT_mem 739 (by decide +kernel) rfl
theorem tw_740 : (Jvm.Cond.instanceMethod ({ cls := "HammockReachModel", name := "minutes", desc := "(I)I" } : Jvm.MethodName)) ∈ TT := TT_mem 740 (by decide +kernel) rfl
theorem tw_741 : (Jvm.Cond.selects "HammockReachModel" ({ cls := "HammockReachModel", name := "minutes", desc := "(I)I" } : Jvm.MethodName) ({ cls := "HammockReachModel", name := "minutes", desc := "(I)I" } : Jvm.MethodName)) ∈ TT := TT_mem 741 (by decide +kernel) rfl
theorem tw_742 : (Jvm.Cond.code ({ cls := "HammockReachModel", name := "minutes", desc := "(I)I" } : Jvm.MethodName) prog_8_method_37_code (3 : Nat) (Option.some Jvm.ClassFile.FieldType.int)) ∈ TT := TT_mem 742 (by decide +kernel) rfl
theorem tw_743 : (Jvm.Cond.methodLink "HammockReachModel" (168 : Nat) ({ cls := "HammockReachModel", name := "isForest", desc := "()Z" } : Jvm.MethodName)) ∈ TT := TT_mem 743 (by decide +kernel) rfl
theorem tw_745 : (Jvm.Cond.instanceMethod ({ cls := "HammockReachModel", name := "isForest", desc := "()Z" } : Jvm.MethodName)) ∈ TT := TT_mem 745 (by decide +kernel) rfl
theorem tw_746 : (Jvm.Cond.code ({ cls := "HammockReachModel", name := "isForest", desc := "()Z" } : Jvm.MethodName) prog_8_method_32_code (1 : Nat) (Option.some Jvm.ClassFile.FieldType.boolean)) ∈ TT := TT_mem 746 (by decide +kernel) rfl
theorem tw_747 : (Jvm.Cond.constant "HammockReachModel" (171 : Nat) (-1000002 : Int32)) ∈ TT := TT_mem 747 (by decide +kernel) rfl
theorem tw_748 : (Jvm.Cond.constantLong "HammockReachModel" (172 : Nat) (24 : Int64)) ∈ TT := TT_mem 748 (by decide +kernel) rfl
theorem tw_749 : (Jvm.Cond.methodLink "HammockReachModel" (174 : Nat) ({ cls := "HammockReachModel", name := "remember", desc := "()V" } : Jvm.MethodName)) ∈ TT := TT_mem 749 (by decide +kernel) rfl
theorem tw_751 : (Jvm.Cond.instanceMethod ({ cls := "HammockReachModel", name := "remember", desc := "()V" } : Jvm.MethodName)) ∈ TT := TT_mem 751 (by decide +kernel) rfl
theorem tw_752 : (Jvm.Cond.code ({ cls := "HammockReachModel", name := "remember", desc := "()V" } : Jvm.MethodName) prog_8_method_36_code (2 : Nat) (Option.none : Option Jvm.ClassFile.FieldType)) ∈ TT := TT_mem 752 (by decide +kernel) rfl
theorem tw_753 : (Jvm.Cond.methodLink "HammockReachModel" (177 : Nat) ({ cls := "HammockReachModel", name := "downOf", desc := "([II)I" } : Jvm.MethodName)) ∈ TT := TT_mem 753 (by decide +kernel) rfl
theorem tw_754 : (Jvm.Cond.static ({ cls := "HammockReachModel", name := "downOf", desc := "([II)I" } : Jvm.MethodName)) ∈ TT := TT_mem 754 (by decide +kernel) rfl
theorem tw_755 : (Jvm.Cond.code ({ cls := "HammockReachModel", name := "downOf", desc := "([II)I" } : Jvm.MethodName) prog_8_method_27_code (4 : Nat) (Option.some Jvm.ClassFile.FieldType.int)) ∈ TT := TT_mem 755 (by decide +kernel) rfl
theorem tw_756 : (Jvm.Cond.methodLink "HammockReachModel" (151 : Nat) ({ cls := "HammockReachModel", name := "isDown", desc := "([III)Z" } : Jvm.MethodName)) ∈ TT := TT_mem 756 (by decide +kernel) rfl
theorem tw_757 : (Jvm.Cond.static ({ cls := "HammockReachModel", name := "isDown", desc := "([III)Z" } : Jvm.MethodName)) ∈ TT := TT_mem 757 (by decide +kernel) rfl
theorem tw_758 : (Jvm.Cond.code ({ cls := "HammockReachModel", name := "isDown", desc := "([III)Z" } : Jvm.MethodName) prog_8_method_26_code (3 : Nat) (Option.some Jvm.ClassFile.FieldType.boolean)) ∈ TT := TT_mem 758 (by decide +kernel) rfl
theorem tw_759 : (Jvm.Cond.methodLink "HammockReachModel" (143 : Nat) ({ cls := "HammockReachModel", name := "has", desc := "(II)Z" } : Jvm.MethodName)) ∈ TT := TT_mem 759 (by decide +kernel) rfl
theorem tw_760 : (Jvm.Cond.static ({ cls := "HammockReachModel", name := "has", desc := "(II)Z" } : Jvm.MethodName)) ∈ TT := TT_mem 760 (by decide +kernel) rfl
theorem tw_761 : (Jvm.Cond.code ({ cls := "HammockReachModel", name := "has", desc := "(II)Z" } : Jvm.MethodName) prog_8_method_22_code (2 : Nat) (Option.some Jvm.ClassFile.FieldType.boolean)) ∈ TT := TT_mem 761 (by decide +kernel) rfl
theorem tw_762 : (Jvm.Cond.methodLink "HammockReachModel" (147 : Nat) ({ cls := "HammockReachModel", name := "dip", desc := "([III)I" } : Jvm.MethodName)) ∈ TT := TT_mem 762 (by decide +kernel) rfl
theorem tw_763 : (Jvm.Cond.static ({ cls := "HammockReachModel", name := "dip", desc := "([III)I" } : Jvm.MethodName)) ∈ TT := TT_mem 763 (by decide +kernel) rfl
theorem tw_764 : (Jvm.Cond.code ({ cls := "HammockReachModel", name := "dip", desc := "([III)I" } : Jvm.MethodName) prog_8_method_23_code (5 : Nat) (Option.some Jvm.ClassFile.FieldType.int)) ∈ TT := TT_mem 764 (by decide +kernel) rfl
theorem tw_765 : (Jvm.Cond.methodLink "HammockReachLaw" (52 : Nat) ({ cls := "HammockReachModel", name := "sling", desc := "(III)I" } : Jvm.MethodName)) ∈ TT := TT_mem 765 (by decide +kernel) rfl
theorem tw_766 : (Jvm.Cond.instanceMethod ({ cls := "HammockReachModel", name := "sling", desc := "(III)I" } : Jvm.MethodName)) ∈ TT := TT_mem 766 (by decide +kernel) rfl
theorem tw_767 : (Jvm.Cond.selects "HammockReachModel" ({ cls := "HammockReachModel", name := "sling", desc := "(III)I" } : Jvm.MethodName) ({ cls := "HammockReachModel", name := "sling", desc := "(III)I" } : Jvm.MethodName)) ∈ TT := TT_mem 767 (by decide +kernel) rfl
theorem tw_768 : (Jvm.Cond.code ({ cls := "HammockReachModel", name := "sling", desc := "(III)I" } : Jvm.MethodName) prog_8_method_38_code (4 : Nat) (Option.some Jvm.ClassFile.FieldType.int)) ∈ TT := TT_mem 768 (by decide +kernel) rfl
theorem tw_769 : (Jvm.Cond.methodLink "HammockReachModel" (181 : Nat) ({ cls := "HammockReachModel", name := "isHammock", desc := "(I)Z" } : Jvm.MethodName)) ∈ TT := TT_mem 769 (by decide +kernel) rfl
theorem tw_771 : (Jvm.Cond.instanceMethod ({ cls := "HammockReachModel", name := "isHammock", desc := "(I)Z" } : Jvm.MethodName)) ∈ TT := TT_mem 771 (by decide +kernel) rfl
theorem tw_772 : (Jvm.Cond.code ({ cls := "HammockReachModel", name := "isHammock", desc := "(I)Z" } : Jvm.MethodName) prog_8_method_33_code (2 : Nat) (Option.some Jvm.ClassFile.FieldType.boolean)) ∈ TT := TT_mem 772 (by decide +kernel) rfl
theorem tw_773 : (Jvm.Cond.constantLong "HammockReachModel" (184 : Nat) (11 : Int64)) ∈ TT := TT_mem 773 (by decide +kernel) rfl
theorem tw_774 : (Jvm.Cond.methodLink "HammockReachModel" (155 : Nat) ({ cls := "HammockReachModel", name := "where", desc := "([III)I" } : Jvm.MethodName)) ∈ TT := TT_mem 774 (by decide +kernel) rfl
theorem tw_775 : (Jvm.Cond.static ({ cls := "HammockReachModel", name := "where", desc := "([III)I" } : Jvm.MethodName)) ∈ TT := TT_mem 775 (by decide +kernel) rfl
theorem tw_776 : (Jvm.Cond.code ({ cls := "HammockReachModel", name := "where", desc := "([III)I" } : Jvm.MethodName) prog_8_method_25_code (6 : Nat) (Option.some Jvm.ClassFile.FieldType.int)) ∈ TT := TT_mem 776 (by decide +kernel) rfl
theorem tw_777 : (Jvm.Cond.methodLink "HammockReachModel" (139 : Nat) ({ cls := "HammockReachModel", name := "swung", desc := "(II)I" } : Jvm.MethodName)) ∈ TT := TT_mem 777 (by decide +kernel) rfl
theorem tw_778 : (Jvm.Cond.static ({ cls := "HammockReachModel", name := "swung", desc := "(II)I" } : Jvm.MethodName)) ∈ TT := TT_mem 778 (by decide +kernel) rfl
theorem tw_779 : (Jvm.Cond.code ({ cls := "HammockReachModel", name := "swung", desc := "(II)I" } : Jvm.MethodName) prog_8_method_24_code (3 : Nat) (Option.some Jvm.ClassFile.FieldType.int)) ∈ TT := TT_mem 779 (by decide +kernel) rfl
theorem tw_780 : (Jvm.Cond.methodLink "HammockReachLaw" (57 : Nat) ({ cls := "HammockReachModel", name := "load", desc := "(II)I" } : Jvm.MethodName)) ∈ TT := TT_mem 780 (by decide +kernel) rfl
theorem tw_781 : (Jvm.Cond.instanceMethod ({ cls := "HammockReachModel", name := "load", desc := "(II)I" } : Jvm.MethodName)) ∈ TT := TT_mem 781 (by decide +kernel) rfl
theorem tw_782 : (Jvm.Cond.selects "HammockReachModel" ({ cls := "HammockReachModel", name := "load", desc := "(II)I" } : Jvm.MethodName) ({ cls := "HammockReachModel", name := "load", desc := "(II)I" } : Jvm.MethodName)) ∈ TT := TT_mem 782 (by decide +kernel) rfl
theorem tw_783 : (Jvm.Cond.code ({ cls := "HammockReachModel", name := "load", desc := "(II)I" } : Jvm.MethodName) prog_8_method_39_code (3 : Nat) (Option.some Jvm.ClassFile.FieldType.int)) ∈ TT := TT_mem 783 (by decide +kernel) rfl
theorem tw_784 : (Jvm.Cond.constantLong "HammockReachModel" (186 : Nat) (20 : Int64)) ∈ TT := TT_mem 784 (by decide +kernel) rfl
theorem tw_785 : (Jvm.Cond.methodLink "HammockReachLaw" (61 : Nat) ({ cls := "HammockReachModel", name := "cord", desc := "(II)I" } : Jvm.MethodName)) ∈ TT := TT_mem 785 (by decide +kernel) rfl
theorem tw_786 : (Jvm.Cond.instanceMethod ({ cls := "HammockReachModel", name := "cord", desc := "(II)I" } : Jvm.MethodName)) ∈ TT := TT_mem 786 (by decide +kernel) rfl
theorem tw_787 : (Jvm.Cond.selects "HammockReachModel" ({ cls := "HammockReachModel", name := "cord", desc := "(II)I" } : Jvm.MethodName) ({ cls := "HammockReachModel", name := "cord", desc := "(II)I" } : Jvm.MethodName)) ∈ TT := TT_mem 787 (by decide +kernel) rfl
theorem tw_788 : (Jvm.Cond.code ({ cls := "HammockReachModel", name := "cord", desc := "(II)I" } : Jvm.MethodName) prog_8_method_40_code (3 : Nat) (Option.some Jvm.ClassFile.FieldType.int)) ∈ TT := TT_mem 788 (by decide +kernel) rfl
theorem tw_789 : (Jvm.Cond.methodLink "HammockReachModel" (188 : Nat) ({ cls := "HammockReachModel", name := "isTwo", desc := "(I)Z" } : Jvm.MethodName)) ∈ TT := TT_mem 789 (by decide +kernel) rfl
theorem tw_790 : (Jvm.Cond.static ({ cls := "HammockReachModel", name := "isTwo", desc := "(I)Z" } : Jvm.MethodName)) ∈ TT := TT_mem 790 (by decide +kernel) rfl
theorem tw_791 : (Jvm.Cond.code ({ cls := "HammockReachModel", name := "isTwo", desc := "(I)Z" } : Jvm.MethodName) prog_8_method_34_code (1 : Nat) (Option.some Jvm.ClassFile.FieldType.boolean)) ∈ TT := TT_mem 791 (by decide +kernel) rfl
theorem tw_792 : (Jvm.Cond.methodLink "HammockReachLaw" (65 : Nat) ({ cls := "HammockReachModel", name := "undo", desc := "()I" } : Jvm.MethodName)) ∈ TT := TT_mem 792 (by decide +kernel) rfl
theorem tw_793 : (Jvm.Cond.instanceMethod ({ cls := "HammockReachModel", name := "undo", desc := "()I" } : Jvm.MethodName)) ∈ TT := TT_mem 793 (by decide +kernel) rfl
theorem tw_794 : (Jvm.Cond.selects "HammockReachModel" ({ cls := "HammockReachModel", name := "undo", desc := "()I" } : Jvm.MethodName) ({ cls := "HammockReachModel", name := "undo", desc := "()I" } : Jvm.MethodName)) ∈ TT := TT_mem 794 (by decide +kernel) rfl
theorem tw_795 : (Jvm.Cond.code ({ cls := "HammockReachModel", name := "undo", desc := "()I" } : Jvm.MethodName) prog_8_method_41_code (1 : Nat) (Option.some Jvm.ClassFile.FieldType.int)) ∈ TT := TT_mem 795 (by decide +kernel) rfl
theorem tw_796 : (Jvm.Cond.methodLink "HammockReachLaw" (69 : Nat) ({ cls := "HammockReachModel", name := "hammock", desc := "(II)I" } : Jvm.MethodName)) ∈ TT := TT_mem 796 (by decide +kernel) rfl
theorem tw_797 : (Jvm.Cond.instanceMethod ({ cls := "HammockReachModel", name := "hammock", desc := "(II)I" } : Jvm.MethodName)) ∈ TT := TT_mem 797 (by decide +kernel) rfl
theorem tw_798 : (Jvm.Cond.selects "HammockReachModel" ({ cls := "HammockReachModel", name := "hammock", desc := "(II)I" } : Jvm.MethodName) ({ cls := "HammockReachModel", name := "hammock", desc := "(II)I" } : Jvm.MethodName)) ∈ TT := TT_mem 798 (by decide +kernel) rfl
theorem tw_799 : (Jvm.Cond.code ({ cls := "HammockReachModel", name := "hammock", desc := "(II)I" } : Jvm.MethodName) prog_8_method_42_code (3 : Nat) (Option.some Jvm.ClassFile.FieldType.int)) ∈ TT := TT_mem 799 (by decide +kernel) rfl
theorem tw_800 : (Jvm.Cond.methodLink "HammockReachLaw" (73 : Nat) ({ cls := "HammockReachModel", name := "ahead", desc := "(III)I" } : Jvm.MethodName)) ∈ TT := TT_mem 800 (by decide +kernel) rfl
theorem tw_801 : (Jvm.Cond.instanceMethod ({ cls := "HammockReachModel", name := "ahead", desc := "(III)I" } : Jvm.MethodName)) ∈ TT := TT_mem 801 (by decide +kernel) rfl
theorem tw_802 : (Jvm.Cond.selects "HammockReachModel" ({ cls := "HammockReachModel", name := "ahead", desc := "(III)I" } : Jvm.MethodName) ({ cls := "HammockReachModel", name := "ahead", desc := "(III)I" } : Jvm.MethodName)) ∈ TT := TT_mem 802 (by decide +kernel) rfl
theorem tw_803 : (Jvm.Cond.code ({ cls := "HammockReachModel", name := "ahead", desc := "(III)I" } : Jvm.MethodName) prog_8_method_43_code (4 : Nat) (Option.some Jvm.ClassFile.FieldType.int)) ∈ TT := TT_mem 803 (by decide +kernel) rfl
theorem tw_804 : (Jvm.Cond.methodLink "HammockReachModel" (191 : Nat) ({ cls := "HammockReachModel", name := "isSpan", desc := "(I)Z" } : Jvm.MethodName)) ∈ TT := TT_mem 804 (by decide +kernel) rfl
theorem tw_805 : (Jvm.Cond.static ({ cls := "HammockReachModel", name := "isSpan", desc := "(I)Z" } : Jvm.MethodName)) ∈ TT := TT_mem 805 (by decide +kernel) rfl
theorem tw_806 : (Jvm.Cond.code ({ cls := "HammockReachModel", name := "isSpan", desc := "(I)Z" } : Jvm.MethodName) prog_8_method_35_code (1 : Nat) (Option.some Jvm.ClassFile.FieldType.boolean)) ∈ TT := TT_mem 806 (by decide +kernel) rfl
theorem tw_807 : (Jvm.Cond.constantLong "HammockReachModel" (166 : Nat) (60 : Int64)) ∈ TT := TT_mem 807 (by decide +kernel) rfl
theorem tw_808 : (Jvm.Cond.methodLink "HammockReachLaw" (77 : Nat) ({ cls := "HammockReachModel", name := "down", desc := "(I)I" } : Jvm.MethodName)) ∈ TT := TT_mem 808 (by decide +kernel) rfl
theorem tw_809 : (Jvm.Cond.instanceMethod ({ cls := "HammockReachModel", name := "down", desc := "(I)I" } : Jvm.MethodName)) ∈ TT := TT_mem 809 (by decide +kernel) rfl
theorem tw_810 : (Jvm.Cond.selects "HammockReachModel" ({ cls := "HammockReachModel", name := "down", desc := "(I)I" } : Jvm.MethodName) ({ cls := "HammockReachModel", name := "down", desc := "(I)I" } : Jvm.MethodName)) ∈ TT := TT_mem 810 (by decide +kernel) rfl
theorem tw_811 : (Jvm.Cond.code ({ cls := "HammockReachModel", name := "down", desc := "(I)I" } : Jvm.MethodName) prog_8_method_44_code (2 : Nat) (Option.some Jvm.ClassFile.FieldType.int)) ∈ TT := TT_mem 811 (by decide +kernel) rfl
theorem tw_812 : (Jvm.Cond.methodLink "HammockReachLaw" (81 : Nat) ({ cls := "HammockReachModel", name := "reach", desc := "(II)I" } : Jvm.MethodName)) ∈ TT := TT_mem 812 (by decide +kernel) rfl
theorem tw_813 : (Jvm.Cond.instanceMethod ({ cls := "HammockReachModel", name := "reach", desc := "(II)I" } : Jvm.MethodName)) ∈ TT := TT_mem 813 (by decide +kernel) rfl
theorem tw_814 : (Jvm.Cond.selects "HammockReachModel" ({ cls := "HammockReachModel", name := "reach", desc := "(II)I" } : Jvm.MethodName) ({ cls := "HammockReachModel", name := "reach", desc := "(II)I" } : Jvm.MethodName)) ∈ TT := TT_mem 814 (by decide +kernel) rfl
theorem tw_815 : (Jvm.Cond.code ({ cls := "HammockReachModel", name := "reach", desc := "(II)I" } : Jvm.MethodName) prog_8_method_45_code (3 : Nat) (Option.some Jvm.ClassFile.FieldType.int)) ∈ TT := TT_mem 815 (by decide +kernel) rfl
theorem tw_816 : (Jvm.Cond.methodLink "HammockReachModel" (162 : Nat) ({ cls := "HammockReachModel", name := "reachOf", desc := "([III)I" } : Jvm.MethodName)) ∈ TT := TT_mem 816 (by decide +kernel) rfl
theorem tw_817 : (Jvm.Cond.static ({ cls := "HammockReachModel", name := "reachOf", desc := "([III)I" } : Jvm.MethodName)) ∈ TT := TT_mem 817 (by decide +kernel) rfl
theorem tw_818 : (Jvm.Cond.code ({ cls := "HammockReachModel", name := "reachOf", desc := "([III)I" } : Jvm.MethodName) prog_8_method_29_code (5 : Nat) (Option.some Jvm.ClassFile.FieldType.int)) ∈ TT := TT_mem 818 (by decide +kernel) rfl
theorem tw_819 : (Jvm.Cond.methodLink "HammockReachModel" (158 : Nat) ({ cls := "HammockReachModel", name := "areNear", desc := "([IIII)Z" } : Jvm.MethodName)) ∈ TT := TT_mem 819 (by decide +kernel) rfl
theorem tw_820 : (Jvm.Cond.static ({ cls := "HammockReachModel", name := "areNear", desc := "([IIII)Z" } : Jvm.MethodName)) ∈ TT := TT_mem 820 (by decide +kernel) rfl
theorem tw_821 : (Jvm.Cond.code ({ cls := "HammockReachModel", name := "areNear", desc := "([IIII)Z" } : Jvm.MethodName) prog_8_method_28_code (5 : Nat) (Option.some Jvm.ClassFile.FieldType.boolean)) ∈ TT := TT_mem 821 (by decide +kernel) rfl
theorem tw_822 : (Jvm.Cond.methodLink "HammockReachLaw" (85 : Nat) ({ cls := "HammockReachModel", name := "meet", desc := "(II)I" } : Jvm.MethodName)) ∈ TT := TT_mem 822 (by decide +kernel) rfl
theorem tw_823 : (Jvm.Cond.instanceMethod ({ cls := "HammockReachModel", name := "meet", desc := "(II)I" } : Jvm.MethodName)) ∈ TT := TT_mem 823 (by decide +kernel) rfl
theorem tw_824 : (Jvm.Cond.selects "HammockReachModel" ({ cls := "HammockReachModel", name := "meet", desc := "(II)I" } : Jvm.MethodName) ({ cls := "HammockReachModel", name := "meet", desc := "(II)I" } : Jvm.MethodName)) ∈ TT := TT_mem 824 (by decide +kernel) rfl
theorem tw_825 : (Jvm.Cond.code ({ cls := "HammockReachModel", name := "meet", desc := "(II)I" } : Jvm.MethodName) prog_8_method_46_code (4 : Nat) (Option.some Jvm.ClassFile.FieldType.int)) ∈ TT := TT_mem 825 (by decide +kernel) rfl
theorem tw_826 : (Jvm.Cond.constant "HammockReachModel" (194 : Nat) (-1000000 : Int32)) ∈ TT := TT_mem 826 (by decide +kernel) rfl
theorem tw_827 : (Jvm.Cond.methodLink "HammockReachLaw" (89 : Nat) ({ cls := "HammockReachModel", name := "soonest", desc := "(II)I" } : Jvm.MethodName)) ∈ TT := TT_mem 827 (by decide +kernel) rfl
theorem tw_828 : (Jvm.Cond.instanceMethod ({ cls := "HammockReachModel", name := "soonest", desc := "(II)I" } : Jvm.MethodName)) ∈ TT := TT_mem 828 (by decide +kernel) rfl
theorem tw_829 : (Jvm.Cond.selects "HammockReachModel" ({ cls := "HammockReachModel", name := "soonest", desc := "(II)I" } : Jvm.MethodName) ({ cls := "HammockReachModel", name := "soonest", desc := "(II)I" } : Jvm.MethodName)) ∈ TT := TT_mem 829 (by decide +kernel) rfl
theorem tw_830 : (Jvm.Cond.code ({ cls := "HammockReachModel", name := "soonest", desc := "(II)I" } : Jvm.MethodName) prog_8_method_48_code (3 : Nat) (Option.some Jvm.ClassFile.FieldType.int)) ∈ TT := TT_mem 830 (by decide +kernel) rfl
theorem tw_831 : (Jvm.Cond.methodLink "HammockReachModel" (195 : Nat) ({ cls := "HammockReachModel", name := "soonestOf", desc := "([III)I" } : Jvm.MethodName)) ∈ TT := TT_mem 831 (by decide +kernel) rfl
theorem tw_832 : (Jvm.Cond.static ({ cls := "HammockReachModel", name := "soonestOf", desc := "([III)I" } : Jvm.MethodName)) ∈ TT := TT_mem 832 (by decide +kernel) rfl
theorem tw_833 : (Jvm.Cond.code ({ cls := "HammockReachModel", name := "soonestOf", desc := "([III)I" } : Jvm.MethodName) prog_8_method_31_code (7 : Nat) (Option.some Jvm.ClassFile.FieldType.int)) ∈ TT := TT_mem 833 (by decide +kernel) rfl
theorem tw_834 : (Jvm.Cond.constant "HammockReachModel" (165 : Nat) (1000000 : Int32)) ∈ TT := TT_mem 834 (by decide +kernel) rfl
theorem tw_835 : (Jvm.Cond.methodLink "HammockReachModel" (198 : Nat) ({ cls := "HammockReachModel", name := "told", desc := "(I)I" } : Jvm.MethodName)) ∈ TT := TT_mem 835 (by decide +kernel) rfl
theorem tw_836 : (Jvm.Cond.static ({ cls := "HammockReachModel", name := "told", desc := "(I)I" } : Jvm.MethodName)) ∈ TT := TT_mem 836 (by decide +kernel) rfl
theorem tw_837 : (Jvm.Cond.code ({ cls := "HammockReachModel", name := "told", desc := "(I)I" } : Jvm.MethodName) prog_8_method_47_code (1 : Nat) (Option.some Jvm.ClassFile.FieldType.int)) ∈ TT := TT_mem 837 (by decide +kernel) rfl
theorem tw_838 : (Jvm.Cond.methodLink "HammockReachLaw" (93 : Nat) ({ cls := "HammockReachModel", name := "hands", desc := "(II)I" } : Jvm.MethodName)) ∈ TT := TT_mem 838 (by decide +kernel) rfl
theorem tw_839 : (Jvm.Cond.instanceMethod ({ cls := "HammockReachModel", name := "hands", desc := "(II)I" } : Jvm.MethodName)) ∈ TT := TT_mem 839 (by decide +kernel) rfl
theorem tw_840 : (Jvm.Cond.selects "HammockReachModel" ({ cls := "HammockReachModel", name := "hands", desc := "(II)I" } : Jvm.MethodName) ({ cls := "HammockReachModel", name := "hands", desc := "(II)I" } : Jvm.MethodName)) ∈ TT := TT_mem 840 (by decide +kernel) rfl
theorem tw_841 : (Jvm.Cond.code ({ cls := "HammockReachModel", name := "hands", desc := "(II)I" } : Jvm.MethodName) prog_8_method_49_code (7 : Nat) (Option.some Jvm.ClassFile.FieldType.int)) ∈ TT := TT_mem 841 (by decide +kernel) rfl
theorem tw_842 : (Jvm.Cond.methodLink "HammockReachLaw" (97 : Nat) ({ cls := "HammockReachModel", name := "everywhere", desc := "(II)I" } : Jvm.MethodName)) ∈ TT := TT_mem 842 (by decide +kernel) rfl
theorem tw_843 : (Jvm.Cond.instanceMethod ({ cls := "HammockReachModel", name := "everywhere", desc := "(II)I" } : Jvm.MethodName)) ∈ TT := TT_mem 843 (by decide +kernel) rfl
theorem tw_844 : (Jvm.Cond.selects "HammockReachModel" ({ cls := "HammockReachModel", name := "everywhere", desc := "(II)I" } : Jvm.MethodName) ({ cls := "HammockReachModel", name := "everywhere", desc := "(II)I" } : Jvm.MethodName)) ∈ TT := TT_mem 844 (by decide +kernel) rfl
theorem tw_845 : (Jvm.Cond.code ({ cls := "HammockReachModel", name := "everywhere", desc := "(II)I" } : Jvm.MethodName) prog_8_method_50_code (3 : Nat) (Option.some Jvm.ClassFile.FieldType.int)) ∈ TT := TT_mem 845 (by decide +kernel) rfl
theorem tw_846 : (Jvm.Cond.methodLink "HammockReachModel" (201 : Nat) ({ cls := "HammockReachModel", name := "spread", desc := "([III)I" } : Jvm.MethodName)) ∈ TT := TT_mem 846 (by decide +kernel) rfl
theorem tw_847 : (Jvm.Cond.static ({ cls := "HammockReachModel", name := "spread", desc := "([III)I" } : Jvm.MethodName)) ∈ TT := TT_mem 847 (by decide +kernel) rfl
theorem tw_848 : (Jvm.Cond.code ({ cls := "HammockReachModel", name := "spread", desc := "([III)I" } : Jvm.MethodName) prog_8_method_30_code (7 : Nat) (Option.some Jvm.ClassFile.FieldType.int)) ∈ TT := TT_mem 848 (by decide +kernel) rfl
theorem tw_849 : (Jvm.Cond.methodLink "HammockReachLaw" (101 : Nat) ({ cls := "HammockReachModel", name := "stops", desc := "(III)I" } : Jvm.MethodName)) ∈ TT := TT_mem 849 (by decide +kernel) rfl
theorem tw_850 : (Jvm.Cond.instanceMethod ({ cls := "HammockReachModel", name := "stops", desc := "(III)I" } : Jvm.MethodName)) ∈ TT := TT_mem 850 (by decide +kernel) rfl
theorem tw_851 : (Jvm.Cond.selects "HammockReachModel" ({ cls := "HammockReachModel", name := "stops", desc := "(III)I" } : Jvm.MethodName) ({ cls := "HammockReachModel", name := "stops", desc := "(III)I" } : Jvm.MethodName)) ∈ TT := TT_mem 851 (by decide +kernel) rfl
theorem tw_852 : (Jvm.Cond.code ({ cls := "HammockReachModel", name := "stops", desc := "(III)I" } : Jvm.MethodName) prog_8_method_52_code (6 : Nat) (Option.some Jvm.ClassFile.FieldType.int)) ∈ TT := TT_mem 852 (by decide +kernel) rfl
theorem tw_853 : (Jvm.Cond.methodLink "HammockReachModel" (204 : Nat) ({ cls := "HammockReachModel", name := "layAside", desc := "()V" } : Jvm.MethodName)) ∈ TT := TT_mem 853 (by decide +kernel) rfl
theorem tw_855 : (Jvm.Cond.instanceMethod ({ cls := "HammockReachModel", name := "layAside", desc := "()V" } : Jvm.MethodName)) ∈ TT := TT_mem 855 (by decide +kernel) rfl
theorem tw_856 : (Jvm.Cond.code ({ cls := "HammockReachModel", name := "layAside", desc := "()V" } : Jvm.MethodName) prog_8_method_51_code (1 : Nat) (Option.none : Option Jvm.ClassFile.FieldType)) ∈ TT := TT_mem 856 (by decide +kernel) rfl
theorem tw_857 : (Jvm.Cond.methodLink "HammockReachLaw" (106 : Nat) ({ cls := "HammockReachModel", name := "toSling", desc := "(IIII)I" } : Jvm.MethodName)) ∈ TT := TT_mem 857 (by decide +kernel) rfl
theorem tw_858 : (Jvm.Cond.instanceMethod ({ cls := "HammockReachModel", name := "toSling", desc := "(IIII)I" } : Jvm.MethodName)) ∈ TT := TT_mem 858 (by decide +kernel) rfl
theorem tw_859 : (Jvm.Cond.selects "HammockReachModel" ({ cls := "HammockReachModel", name := "toSling", desc := "(IIII)I" } : Jvm.MethodName) ({ cls := "HammockReachModel", name := "toSling", desc := "(IIII)I" } : Jvm.MethodName)) ∈ TT := TT_mem 859 (by decide +kernel) rfl
theorem tw_860 : (Jvm.Cond.code ({ cls := "HammockReachModel", name := "toSling", desc := "(IIII)I" } : Jvm.MethodName) prog_8_method_53_code (10 : Nat) (Option.some Jvm.ClassFile.FieldType.int)) ∈ TT := TT_mem 860 (by decide +kernel) rfl
theorem tw_861 : (Jvm.Cond.methodLink "HammockReachLaw" (110 : Nat) ({ cls := "HammockReachModel", name := "fits", desc := "(IIIII)I" } : Jvm.MethodName)) ∈ TT := TT_mem 861 (by decide +kernel) rfl
theorem tw_862 : (Jvm.Cond.instanceMethod ({ cls := "HammockReachModel", name := "fits", desc := "(IIIII)I" } : Jvm.MethodName)) ∈ TT := TT_mem 862 (by decide +kernel) rfl
theorem tw_863 : (Jvm.Cond.selects "HammockReachModel" ({ cls := "HammockReachModel", name := "fits", desc := "(IIIII)I" } : Jvm.MethodName) ({ cls := "HammockReachModel", name := "fits", desc := "(IIIII)I" } : Jvm.MethodName)) ∈ TT := TT_mem 863 (by decide +kernel) rfl
theorem tw_864 : (Jvm.Cond.code ({ cls := "HammockReachModel", name := "fits", desc := "(IIIII)I" } : Jvm.MethodName) prog_8_method_54_code (14 : Nat) (Option.some Jvm.ClassFile.FieldType.int)) ∈ TT := TT_mem 864 (by decide +kernel) rfl
theorem tw_865 : (Jvm.Cond.constantLong "HammockReachModel" (207 : Nat) (16 : Int64)) ∈ TT := TT_mem 865 (by decide +kernel) rfl
theorem tw_866 : (Jvm.Cond.methodLink "HammockReachLaw" (114 : Nat) ({ cls := "HammockReachModel", name := "breaks", desc := "(IIIII)I" } : Jvm.MethodName)) ∈ TT := TT_mem 866 (by decide +kernel) rfl
theorem tw_867 : (Jvm.Cond.instanceMethod ({ cls := "HammockReachModel", name := "breaks", desc := "(IIIII)I" } : Jvm.MethodName)) ∈ TT := TT_mem 867 (by decide +kernel) rfl
theorem tw_868 : (Jvm.Cond.selects "HammockReachModel" ({ cls := "HammockReachModel", name := "breaks", desc := "(IIIII)I" } : Jvm.MethodName) ({ cls := "HammockReachModel", name := "breaks", desc := "(IIIII)I" } : Jvm.MethodName)) ∈ TT := TT_mem 868 (by decide +kernel) rfl
theorem tw_869 : (Jvm.Cond.code ({ cls := "HammockReachModel", name := "breaks", desc := "(IIIII)I" } : Jvm.MethodName) prog_8_method_55_code (16 : Nat) (Option.some Jvm.ClassFile.FieldType.int)) ∈ TT := TT_mem 869 (by decide +kernel) rfl
theorem tw_870 : (Jvm.Cond.constantLong "HammockReachModel" (209 : Nat) (10 : Int64)) ∈ TT := TT_mem 870 (by decide +kernel) rfl
theorem tw_871 : (Jvm.Cond.methodLink "HammockReachLaw" (118 : Nat) ({ cls := "HammockReachModel", name := "image", desc := "(I)I" } : Jvm.MethodName)) ∈ TT := TT_mem 871 (by decide +kernel) rfl
theorem tw_872 : (Jvm.Cond.instanceMethod ({ cls := "HammockReachModel", name := "image", desc := "(I)I" } : Jvm.MethodName)) ∈ TT := TT_mem 872 (by decide +kernel) rfl
theorem tw_873 : (Jvm.Cond.selects "HammockReachModel" ({ cls := "HammockReachModel", name := "image", desc := "(I)I" } : Jvm.MethodName) ({ cls := "HammockReachModel", name := "image", desc := "(I)I" } : Jvm.MethodName)) ∈ TT := TT_mem 873 (by decide +kernel) rfl
theorem tw_874 : (Jvm.Cond.code ({ cls := "HammockReachModel", name := "image", desc := "(I)I" } : Jvm.MethodName) prog_8_method_56_code (2 : Nat) (Option.some Jvm.ClassFile.FieldType.int)) ∈ TT := TT_mem 874 (by decide +kernel) rfl
theorem tw_875 : (Jvm.Cond.methodLink "HammockReachLaw" (122 : Nat) ({ cls := "HammockReachModel", name := "restore", desc := "(I)I" } : Jvm.MethodName)) ∈ TT := TT_mem 875 (by decide +kernel) rfl
theorem tw_876 : (Jvm.Cond.instanceMethod ({ cls := "HammockReachModel", name := "restore", desc := "(I)I" } : Jvm.MethodName)) ∈ TT := TT_mem 876 (by decide +kernel) rfl
theorem tw_877 : (Jvm.Cond.selects "HammockReachModel" ({ cls := "HammockReachModel", name := "restore", desc := "(I)I" } : Jvm.MethodName) ({ cls := "HammockReachModel", name := "restore", desc := "(I)I" } : Jvm.MethodName)) ∈ TT := TT_mem 877 (by decide +kernel) rfl
theorem tw_878 : (Jvm.Cond.code ({ cls := "HammockReachModel", name := "restore", desc := "(I)I" } : Jvm.MethodName) prog_8_method_57_code (2 : Nat) (Option.some Jvm.ClassFile.FieldType.int)) ∈ TT := TT_mem 878 (by decide +kernel) rfl
theorem tw_879 : (Jvm.Cond.methodLink "HammockReachLaw" (126 : Nat) ({ cls := "HammockReachModel", name := "kind", desc := "(I)I" } : Jvm.MethodName)) ∈ TT := TT_mem 879 (by decide +kernel) rfl
theorem tw_880 : (Jvm.Cond.instanceMethod ({ cls := "HammockReachModel", name := "kind", desc := "(I)I" } : Jvm.MethodName)) ∈ TT := TT_mem 880 (by decide +kernel) rfl
theorem tw_881 : (Jvm.Cond.selects "HammockReachModel" ({ cls := "HammockReachModel", name := "kind", desc := "(I)I" } : Jvm.MethodName) ({ cls := "HammockReachModel", name := "kind", desc := "(I)I" } : Jvm.MethodName)) ∈ TT := TT_mem 881 (by decide +kernel) rfl
theorem tw_882 : (Jvm.Cond.code ({ cls := "HammockReachModel", name := "kind", desc := "(I)I" } : Jvm.MethodName) prog_8_method_58_code (2 : Nat) (Option.some Jvm.ClassFile.FieldType.int)) ∈ TT := TT_mem 882 (by decide +kernel) rfl
theorem tw_883 : (Jvm.Cond.methodLink "HammockReachLaw" (130 : Nat) ({ cls := "HammockReachModel", name := "as", desc := "(II)I" } : Jvm.MethodName)) ∈ TT := TT_mem 883 (by decide +kernel) rfl
theorem tw_884 : (Jvm.Cond.instanceMethod ({ cls := "HammockReachModel", name := "as", desc := "(II)I" } : Jvm.MethodName)) ∈ TT := TT_mem 884 (by decide +kernel) rfl
theorem tw_885 : (Jvm.Cond.selects "HammockReachModel" ({ cls := "HammockReachModel", name := "as", desc := "(II)I" } : Jvm.MethodName) ({ cls := "HammockReachModel", name := "as", desc := "(II)I" } : Jvm.MethodName)) ∈ TT := TT_mem 885 (by decide +kernel) rfl
theorem tw_886 : (Jvm.Cond.code ({ cls := "HammockReachModel", name := "as", desc := "(II)I" } : Jvm.MethodName) prog_8_method_60_code (3 : Nat) (Option.some Jvm.ClassFile.FieldType.int)) ∈ TT := TT_mem 886 (by decide +kernel) rfl
theorem tw_887 : (Jvm.Cond.constantLong "HammockReachModel" (211 : Nat) (5 : Int64)) ∈ TT := TT_mem 887 (by decide +kernel) rfl
theorem tw_888 : (Jvm.Cond.methodLink "HammockReachModel" (213 : Nat) ({ cls := "HammockReachModel", name := "isOf", desc := "(II)Z" } : Jvm.MethodName)) ∈ TT := TT_mem 888 (by decide +kernel) rfl
theorem tw_889 : (Jvm.Cond.static ({ cls := "HammockReachModel", name := "isOf", desc := "(II)Z" } : Jvm.MethodName)) ∈ TT := TT_mem 889 (by decide +kernel) rfl
theorem tw_890 : (Jvm.Cond.code ({ cls := "HammockReachModel", name := "isOf", desc := "(II)Z" } : Jvm.MethodName) prog_8_method_59_code (2 : Nat) (Option.some Jvm.ClassFile.FieldType.boolean)) ∈ TT := TT_mem 890 (by decide +kernel) rfl
theorem tw_891 : (Jvm.Cond.methodLink "HammockReachLaw" (134 : Nat) ({ cls := "HammockReachModel", name := "ask", desc := "(II)I" } : Jvm.MethodName)) ∈ TT := TT_mem 891 (by decide +kernel) rfl
theorem tw_892 : (Jvm.Cond.instanceMethod ({ cls := "HammockReachModel", name := "ask", desc := "(II)I" } : Jvm.MethodName)) ∈ TT := TT_mem 892 (by decide +kernel) rfl
theorem tw_893 : (Jvm.Cond.selects "HammockReachModel" ({ cls := "HammockReachModel", name := "ask", desc := "(II)I" } : Jvm.MethodName) ({ cls := "HammockReachModel", name := "ask", desc := "(II)I" } : Jvm.MethodName)) ∈ TT := TT_mem 893 (by decide +kernel) rfl
theorem tw_894 : (Jvm.Cond.code ({ cls := "HammockReachModel", name := "ask", desc := "(II)I" } : Jvm.MethodName) prog_8_method_64_code (5 : Nat) (Option.some Jvm.ClassFile.FieldType.int)) ∈ TT := TT_mem 894 (by decide +kernel) rfl
theorem tw_895 : (Jvm.Cond.methodLink "HammockReachModel" (235 : Nat) ({ cls := "HammockReachModel", name := "mark", desc := "(I)I" } : Jvm.MethodName)) ∈ TT := TT_mem 895 (by decide +kernel) rfl
theorem tw_897 : (Jvm.Cond.instanceMethod ({ cls := "HammockReachModel", name := "mark", desc := "(I)I" } : Jvm.MethodName)) ∈ TT := TT_mem 897 (by decide +kernel) rfl
theorem tw_898 : (Jvm.Cond.code ({ cls := "HammockReachModel", name := "mark", desc := "(I)I" } : Jvm.MethodName) prog_8_method_62_code (4 : Nat) (Option.some Jvm.ClassFile.FieldType.int)) ∈ TT := TT_mem 898 (by decide +kernel) rfl
theorem tw_899 : (Jvm.Cond.constantLong "HammockReachModel" (221 : Nat) (242120 : Int64)) ∈ TT := TT_mem 899 (by decide +kernel) rfl
theorem tw_900 : (Jvm.Cond.constantLong "HammockReachModel" (223 : Nat) (222120 : Int64)) ∈ TT := TT_mem 900 (by decide +kernel) rfl
theorem tw_901 : (Jvm.Cond.constantLong "HammockReachModel" (225 : Nat) (2120 : Int64)) ∈ TT := TT_mem 901 (by decide +kernel) rfl
theorem tw_902 : (Jvm.Cond.methodLink "HammockReachModel" (227 : Nat) ({ cls := "HammockReachModel", name := "leave", desc := "(J)V" } : Jvm.MethodName)) ∈ TT := TT_mem 902 (by decide +kernel) rfl
theorem tw_904 : (Jvm.Cond.instanceMethod ({ cls := "HammockReachModel", name := "leave", desc := "(J)V" } : Jvm.MethodName)) ∈ TT := TT_mem 904 (by decide +kernel) rfl
theorem tw_905 : (Jvm.Cond.code ({ cls := "HammockReachModel", name := "leave", desc := "(J)V" } : Jvm.MethodName) prog_8_method_61_code (7 : Nat) (Option.none : Option Jvm.ClassFile.FieldType)) ∈ TT := TT_mem 905 (by decide +kernel) rfl
theorem tw_906 : (Jvm.Cond.constantLong "HammockReachModel" (216 : Nat) (100 : Int64)) ∈ TT := TT_mem 906 (by decide +kernel) rfl
theorem tw_907 : (Jvm.Cond.constantLong "HammockReachModel" (238 : Nat) (121110 : Int64)) ∈ TT := TT_mem 907 (by decide +kernel) rfl
theorem tw_908 : (Jvm.Cond.constantLong "HammockReachModel" (240 : Nat) (1110 : Int64)) ∈ TT := TT_mem 908 (by decide +kernel) rfl
theorem tw_909 : (Jvm.Cond.methodLink "HammockReachModel" (242 : Nat) ({ cls := "HammockReachModel", name := "sizeOf", desc := "(I)I" } : Jvm.MethodName)) ∈ TT := TT_mem 909 (by decide +kernel) rfl
theorem tw_911 : (Jvm.Cond.instanceMethod ({ cls := "HammockReachModel", name := "sizeOf", desc := "(I)I" } : Jvm.MethodName)) ∈ TT := TT_mem 911 (by decide +kernel) rfl
theorem tw_912 : (Jvm.Cond.code ({ cls := "HammockReachModel", name := "sizeOf", desc := "(I)I" } : Jvm.MethodName) prog_8_method_63_code (4 : Nat) (Option.some Jvm.ClassFile.FieldType.int)) ∈ TT := TT_mem 912 (by decide +kernel) rfl
theorem tw_913 : (Jvm.Cond.constantLong "HammockReachModel" (231 : Nat) (141310 : Int64)) ∈ TT := TT_mem 913 (by decide +kernel) rfl
theorem tw_914 : (Jvm.Cond.constantLong "HammockReachModel" (233 : Nat) (1310 : Int64)) ∈ TT := TT_mem 914 (by decide +kernel) rfl
theorem tw_915 : (Jvm.Cond.constantLong "HammockReachModel" (245 : Nat) (2320 : Int64)) ∈ TT := TT_mem 915 (by decide +kernel) rfl
theorem tw_916 : (Jvm.Cond.methodLink "HammockReachLaw" (138 : Nat) ({ cls := "HammockReachModel", name := "trace", desc := "(I)I" } : Jvm.MethodName)) ∈ TT := TT_mem 916 (by decide +kernel) rfl
theorem tw_917 : (Jvm.Cond.instanceMethod ({ cls := "HammockReachModel", name := "trace", desc := "(I)I" } : Jvm.MethodName)) ∈ TT := TT_mem 917 (by decide +kernel) rfl
theorem tw_918 : (Jvm.Cond.selects "HammockReachModel" ({ cls := "HammockReachModel", name := "trace", desc := "(I)I" } : Jvm.MethodName) ({ cls := "HammockReachModel", name := "trace", desc := "(I)I" } : Jvm.MethodName)) ∈ TT := TT_mem 918 (by decide +kernel) rfl
theorem tw_919 : (Jvm.Cond.code ({ cls := "HammockReachModel", name := "trace", desc := "(I)I" } : Jvm.MethodName) prog_8_method_65_code (2 : Nat) (Option.some Jvm.ClassFile.FieldType.int)) ∈ TT := TT_mem 919 (by decide +kernel) rfl
theorem tw_920 : (Jvm.Cond.methodLink "HammockReachLaw" (142 : Nat) ({ cls := "HammockReachModel", name := "count", desc := "(I)I" } : Jvm.MethodName)) ∈ TT := TT_mem 920 (by decide +kernel) rfl
theorem tw_921 : (Jvm.Cond.instanceMethod ({ cls := "HammockReachModel", name := "count", desc := "(I)I" } : Jvm.MethodName)) ∈ TT := TT_mem 921 (by decide +kernel) rfl
theorem tw_922 : (Jvm.Cond.selects "HammockReachModel" ({ cls := "HammockReachModel", name := "count", desc := "(I)I" } : Jvm.MethodName) ({ cls := "HammockReachModel", name := "count", desc := "(I)I" } : Jvm.MethodName)) ∈ TT := TT_mem 922 (by decide +kernel) rfl
theorem tw_923 : (Jvm.Cond.code ({ cls := "HammockReachModel", name := "count", desc := "(I)I" } : Jvm.MethodName) prog_8_method_66_code (5 : Nat) (Option.some Jvm.ClassFile.FieldType.int)) ∈ TT := TT_mem 923 (by decide +kernel) rfl
theorem tw_924 : (Jvm.Cond.methodLink "HammockReachLaw" (146 : Nat) ({ cls := "HammockReachModel", name := "status", desc := "()I" } : Jvm.MethodName)) ∈ TT := TT_mem 924 (by decide +kernel) rfl
theorem tw_925 : (Jvm.Cond.instanceMethod ({ cls := "HammockReachModel", name := "status", desc := "()I" } : Jvm.MethodName)) ∈ TT := TT_mem 925 (by decide +kernel) rfl
theorem tw_926 : (Jvm.Cond.selects "HammockReachModel" ({ cls := "HammockReachModel", name := "status", desc := "()I" } : Jvm.MethodName) ({ cls := "HammockReachModel", name := "status", desc := "()I" } : Jvm.MethodName)) ∈ TT := TT_mem 926 (by decide +kernel) rfl
theorem tw_927 : (Jvm.Cond.code ({ cls := "HammockReachModel", name := "status", desc := "()I" } : Jvm.MethodName) prog_8_method_67_code (1 : Nat) (Option.some Jvm.ClassFile.FieldType.int)) ∈ TT := TT_mem 927 (by decide +kernel) rfl
theorem xlay_X0 : ∀ w ∈ u_ws RX0 TX0 6, w ∈ TT := by
  have h : ∀ w ∈ u_ws RX0 TX0 6, w ∈ lw_tbl ∧ goodWord w = true := by decide +kernel
  exact fun w hw => List.mem_filter.mpr (h w hw)
theorem xlay_X1 : ∀ w ∈ u_ws RX1 TX1 11, w ∈ TT := by
  have h : ∀ w ∈ u_ws RX1 TX1 11, w ∈ lw_tbl ∧ goodWord w = true := by decide +kernel
  exact fun w hw => List.mem_filter.mpr (h w hw)
theorem xlay_X2 : ∀ w ∈ u_ws RX2 TX2 4, w ∈ TT := by
  have h : ∀ w ∈ u_ws RX2 TX2 4, w ∈ lw_tbl ∧ goodWord w = true := by decide +kernel
  exact fun w hw => List.mem_filter.mpr (h w hw)
theorem xlay_X3 : ∀ w ∈ u_ws RX3 TX3 3, w ∈ TT := by
  have h : ∀ w ∈ u_ws RX3 TX3 3, w ∈ lw_tbl ∧ goodWord w = true := by decide +kernel
  exact fun w hw => List.mem_filter.mpr (h w hw)
theorem xlay_X4 : ∀ w ∈ u_ws RX4 TX4 4, w ∈ TT := by
  have h : ∀ w ∈ u_ws RX4 TX4 4, w ∈ lw_tbl ∧ goodWord w = true := by decide +kernel
  exact fun w hw => List.mem_filter.mpr (h w hw)
theorem xlay_X5 : ∀ w ∈ u_ws RX5 TX5 10, w ∈ TT := by
  have h : ∀ w ∈ u_ws RX5 TX5 10, w ∈ lw_tbl ∧ goodWord w = true := by decide +kernel
  exact fun w hw => List.mem_filter.mpr (h w hw)
theorem xlay_X6 : ∀ w ∈ u_ws RX6 TX6 23, w ∈ TT := by
  have h : ∀ w ∈ u_ws RX6 TX6 23, w ∈ lw_tbl ∧ goodWord w = true := by decide +kernel
  exact fun w hw => List.mem_filter.mpr (h w hw)
theorem xf_X4_9 : xF RX4 9 4 0 := ⟨RX4, TX4, 4, rfl, by decide, tw_27, xlay_X4, ⟨tyX4, tyX4_ok⟩, nmX4⟩
theorem xf_X5_101 : xF RX5 101 4 0 := ⟨RX4, TX4, 4, rfl, by decide, tw_28, xlay_X4, ⟨tyX4, tyX4_ok⟩, nmX4⟩
theorem xf_X4_28 : xF RX4 28 4 1 := ⟨RX4, TX4, 4, rfl, by decide, tw_29, xlay_X4, ⟨tyX4, tyX4_ok⟩, nmX4⟩
theorem xf_X5_97 : xF RX5 97 4 1 := ⟨RX4, TX4, 4, rfl, by decide, tw_30, xlay_X4, ⟨tyX4, tyX4_ok⟩, nmX4⟩
theorem xf_X4_15 : xF RX4 15 4 2 := ⟨RX4, TX4, 4, rfl, by decide, tw_31, xlay_X4, ⟨tyX4, tyX4_ok⟩, nmX4⟩
theorem xf_X5_109 : xF RX5 109 4 2 := ⟨RX4, TX4, 4, rfl, by decide, tw_32, xlay_X4, ⟨tyX4, tyX4_ok⟩, nmX4⟩
theorem xf_X5_120 : xF RX5 120 4 3 := ⟨RX4, TX4, 4, rfl, by decide, tw_33, xlay_X4, ⟨tyX4, tyX4_ok⟩, nmX4⟩
theorem xf_X4_86 : xF RX4 86 4 3 := ⟨RX4, TX4, 4, rfl, by decide, tw_34, xlay_X4, ⟨tyX4, tyX4_ok⟩, nmX4⟩
theorem xf_X1_9 : xF RX1 9 1 0 := ⟨RX1, TX1, 11, rfl, by decide, tw_51, xlay_X1, ⟨tyX1, tyX1_ok⟩, nmX1⟩
theorem xf_X4_61 : xF RX4 61 1 0 := ⟨RX1, TX1, 11, rfl, by decide, tw_52, xlay_X1, ⟨tyX1, tyX1_ok⟩, nmX1⟩
theorem xf_X5_226 : xF RX5 226 1 0 := ⟨RX1, TX1, 11, rfl, by decide, tw_53, xlay_X1, ⟨tyX1, tyX1_ok⟩, nmX1⟩
theorem xf_X1_15 : xF RX1 15 1 1 := ⟨RX1, TX1, 11, rfl, by decide, tw_54, xlay_X1, ⟨tyX1, tyX1_ok⟩, nmX1⟩
theorem xf_X0_31 : xF RX0 31 1 1 := ⟨RX1, TX1, 11, rfl, by decide, tw_55, xlay_X1, ⟨tyX1, tyX1_ok⟩, nmX1⟩
theorem xf_X4_71 : xF RX4 71 1 1 := ⟨RX1, TX1, 11, rfl, by decide, tw_56, xlay_X1, ⟨tyX1, tyX1_ok⟩, nmX1⟩
theorem xf_X5_141 : xF RX5 141 1 1 := ⟨RX1, TX1, 11, rfl, by decide, tw_57, xlay_X1, ⟨tyX1, tyX1_ok⟩, nmX1⟩
theorem xf_X1_18 : xF RX1 18 1 2 := ⟨RX1, TX1, 11, rfl, by decide, tw_58, xlay_X1, ⟨tyX1, tyX1_ok⟩, nmX1⟩
theorem xf_X0_36 : xF RX0 36 1 2 := ⟨RX1, TX1, 11, rfl, by decide, tw_59, xlay_X1, ⟨tyX1, tyX1_ok⟩, nmX1⟩
theorem xf_X4_74 : xF RX4 74 1 2 := ⟨RX1, TX1, 11, rfl, by decide, tw_60, xlay_X1, ⟨tyX1, tyX1_ok⟩, nmX1⟩
theorem xf_X5_144 : xF RX5 144 1 2 := ⟨RX1, TX1, 11, rfl, by decide, tw_61, xlay_X1, ⟨tyX1, tyX1_ok⟩, nmX1⟩
theorem xf_X1_21 : xF RX1 21 1 3 := ⟨RX1, TX1, 11, rfl, by decide, tw_62, xlay_X1, ⟨tyX1, tyX1_ok⟩, nmX1⟩
theorem xf_X0_39 : xF RX0 39 1 3 := ⟨RX1, TX1, 11, rfl, by decide, tw_63, xlay_X1, ⟨tyX1, tyX1_ok⟩, nmX1⟩
theorem xf_X4_77 : xF RX4 77 1 3 := ⟨RX1, TX1, 11, rfl, by decide, tw_64, xlay_X1, ⟨tyX1, tyX1_ok⟩, nmX1⟩
theorem xf_X5_151 : xF RX5 151 1 3 := ⟨RX1, TX1, 11, rfl, by decide, tw_65, xlay_X1, ⟨tyX1, tyX1_ok⟩, nmX1⟩
theorem xf_X1_24 : xF RX1 24 1 4 := ⟨RX1, TX1, 11, rfl, by decide, tw_66, xlay_X1, ⟨tyX1, tyX1_ok⟩, nmX1⟩
theorem xf_X4_80 : xF RX4 80 1 4 := ⟨RX1, TX1, 11, rfl, by decide, tw_67, xlay_X1, ⟨tyX1, tyX1_ok⟩, nmX1⟩
theorem xf_X5_169 : xF RX5 169 1 4 := ⟨RX1, TX1, 11, rfl, by decide, tw_68, xlay_X1, ⟨tyX1, tyX1_ok⟩, nmX1⟩
theorem xf_X1_27 : xF RX1 27 1 5 := ⟨RX1, TX1, 11, rfl, by decide, tw_69, xlay_X1, ⟨tyX1, tyX1_ok⟩, nmX1⟩
theorem xf_X5_123 : xF RX5 123 1 5 := ⟨RX1, TX1, 11, rfl, by decide, tw_70, xlay_X1, ⟨tyX1, tyX1_ok⟩, nmX1⟩
theorem xf_X4_42 : xF RX4 42 1 6 := ⟨RX1, TX1, 11, rfl, by decide, tw_71, xlay_X1, ⟨tyX1, tyX1_ok⟩, nmX1⟩
theorem xf_X1_47 : xF RX1 47 1 6 := ⟨RX1, TX1, 11, rfl, by decide, tw_72, xlay_X1, ⟨tyX1, tyX1_ok⟩, nmX1⟩
theorem xf_X5_242 : xF RX5 242 1 6 := ⟨RX1, TX1, 11, rfl, by decide, tw_73, xlay_X1, ⟨tyX1, tyX1_ok⟩, nmX1⟩
theorem xf_X4_45 : xF RX4 45 1 7 := ⟨RX1, TX1, 11, rfl, by decide, tw_74, xlay_X1, ⟨tyX1, tyX1_ok⟩, nmX1⟩
theorem xf_X1_50 : xF RX1 50 1 7 := ⟨RX1, TX1, 11, rfl, by decide, tw_75, xlay_X1, ⟨tyX1, tyX1_ok⟩, nmX1⟩
theorem xf_X5_245 : xF RX5 245 1 7 := ⟨RX1, TX1, 11, rfl, by decide, tw_76, xlay_X1, ⟨tyX1, tyX1_ok⟩, nmX1⟩
theorem xf_X1_31 : xF RX1 31 1 8 := ⟨RX1, TX1, 11, rfl, by decide, tw_77, xlay_X1, ⟨tyX1, tyX1_ok⟩, nmX1⟩
theorem xf_X2_28 : xF RX2 28 1 8 := ⟨RX1, TX1, 11, rfl, by decide, tw_78, xlay_X1, ⟨tyX1, tyX1_ok⟩, nmX1⟩
theorem xf_X0_45 : xF RX0 45 1 8 := ⟨RX1, TX1, 11, rfl, by decide, tw_79, xlay_X1, ⟨tyX1, tyX1_ok⟩, nmX1⟩
theorem xf_X5_128 : xF RX5 128 1 8 := ⟨RX1, TX1, 11, rfl, by decide, tw_80, xlay_X1, ⟨tyX1, tyX1_ok⟩, nmX1⟩
theorem xf_X2_21 : xF RX2 21 1 9 := ⟨RX1, TX1, 11, rfl, by decide, tw_81, xlay_X1, ⟨tyX1, tyX1_ok⟩, nmX1⟩
theorem xf_X1_35 : xF RX1 35 1 9 := ⟨RX1, TX1, 11, rfl, by decide, tw_82, xlay_X1, ⟨tyX1, tyX1_ok⟩, nmX1⟩
theorem xf_X4_48 : xF RX4 48 1 9 := ⟨RX1, TX1, 11, rfl, by decide, tw_83, xlay_X1, ⟨tyX1, tyX1_ok⟩, nmX1⟩
theorem xf_X5_119 : xF RX5 119 1 9 := ⟨RX1, TX1, 11, rfl, by decide, tw_84, xlay_X1, ⟨tyX1, tyX1_ok⟩, nmX1⟩
theorem xf_X1_38 : xF RX1 38 1 10 := ⟨RX1, TX1, 11, rfl, by decide, tw_85, xlay_X1, ⟨tyX1, tyX1_ok⟩, nmX1⟩
theorem xf_X0_42 : xF RX0 42 1 10 := ⟨RX1, TX1, 11, rfl, by decide, tw_86, xlay_X1, ⟨tyX1, tyX1_ok⟩, nmX1⟩
theorem xf_X5_160 : xF RX5 160 1 10 := ⟨RX1, TX1, 11, rfl, by decide, tw_87, xlay_X1, ⟨tyX1, tyX1_ok⟩, nmX1⟩
theorem xf_X0_9 : xF RX0 9 0 0 := ⟨RX0, TX0, 6, rfl, by decide, tw_118, xlay_X0, ⟨tyX0, tyX0_ok⟩, nmX0⟩
theorem xf_X0_15 : xF RX0 15 0 1 := ⟨RX0, TX0, 6, rfl, by decide, tw_119, xlay_X0, ⟨tyX0, tyX0_ok⟩, nmX0⟩
theorem xf_X0_18 : xF RX0 18 0 2 := ⟨RX0, TX0, 6, rfl, by decide, tw_120, xlay_X0, ⟨tyX0, tyX0_ok⟩, nmX0⟩
theorem xf_X0_21 : xF RX0 21 0 3 := ⟨RX0, TX0, 6, rfl, by decide, tw_121, xlay_X0, ⟨tyX0, tyX0_ok⟩, nmX0⟩
theorem xf_X0_28 : xF RX0 28 0 4 := ⟨RX0, TX0, 6, rfl, by decide, tw_122, xlay_X0, ⟨tyX0, tyX0_ok⟩, nmX0⟩
theorem xf_X0_24 : xF RX0 24 0 5 := ⟨RX0, TX0, 6, rfl, by decide, tw_123, xlay_X0, ⟨tyX0, tyX0_ok⟩, nmX0⟩
theorem xf_X5_163 : xF RX5 163 0 5 := ⟨RX0, TX0, 6, rfl, by decide, tw_124, xlay_X0, ⟨tyX0, tyX0_ok⟩, nmX0⟩
theorem xf_X2_9 : xF RX2 9 2 0 := ⟨RX2, TX2, 4, rfl, by decide, tw_144, xlay_X2, ⟨tyX2, tyX2_ok⟩, nmX2⟩
theorem xf_X2_15 : xF RX2 15 2 1 := ⟨RX2, TX2, 4, rfl, by decide, tw_145, xlay_X2, ⟨tyX2, tyX2_ok⟩, nmX2⟩
theorem xf_X2_18 : xF RX2 18 2 2 := ⟨RX2, TX2, 4, rfl, by decide, tw_146, xlay_X2, ⟨tyX2, tyX2_ok⟩, nmX2⟩
theorem xf_X2_27 : xF RX2 27 2 3 := ⟨RX2, TX2, 4, rfl, by decide, tw_147, xlay_X2, ⟨tyX2, tyX2_ok⟩, nmX2⟩
theorem xf_X3_9 : xF RX3 9 3 0 := ⟨RX3, TX3, 3, rfl, by decide, tw_162, xlay_X3, ⟨tyX3, tyX3_ok⟩, nmX3⟩
theorem xf_X5_82 : xF RX5 82 3 0 := ⟨RX3, TX3, 3, rfl, by decide, tw_163, xlay_X3, ⟨tyX3, tyX3_ok⟩, nmX3⟩
theorem xf_X3_15 : xF RX3 15 3 1 := ⟨RX3, TX3, 3, rfl, by decide, tw_164, xlay_X3, ⟨tyX3, tyX3_ok⟩, nmX3⟩
theorem xf_X5_76 : xF RX5 76 3 1 := ⟨RX3, TX3, 3, rfl, by decide, tw_165, xlay_X3, ⟨tyX3, tyX3_ok⟩, nmX3⟩
theorem xf_X3_19 : xF RX3 19 3 2 := ⟨RX3, TX3, 3, rfl, by decide, tw_166, xlay_X3, ⟨tyX3, tyX3_ok⟩, nmX3⟩
theorem xf_X5_79 : xF RX5 79 3 2 := ⟨RX3, TX3, 3, rfl, by decide, tw_167, xlay_X3, ⟨tyX3, tyX3_ok⟩, nmX3⟩
theorem xf_X5_11 : xF RX5 11 5 0 := ⟨RX5, TX5, 10, rfl, by decide, tw_175, xlay_X5, ⟨tyX5, tyX5_ok⟩, nmX5⟩
theorem xf_X5_18 : xF RX5 18 5 1 := ⟨RX5, TX5, 10, rfl, by decide, tw_176, xlay_X5, ⟨tyX5, tyX5_ok⟩, nmX5⟩
theorem xf_X5_25 : xF RX5 25 5 2 := ⟨RX5, TX5, 10, rfl, by decide, tw_177, xlay_X5, ⟨tyX5, tyX5_ok⟩, nmX5⟩
theorem xf_X5_29 : xF RX5 29 5 3 := ⟨RX5, TX5, 10, rfl, by decide, tw_178, xlay_X5, ⟨tyX5, tyX5_ok⟩, nmX5⟩
theorem xf_X5_32 : xF RX5 32 5 4 := ⟨RX5, TX5, 10, rfl, by decide, tw_179, xlay_X5, ⟨tyX5, tyX5_ok⟩, nmX5⟩
theorem xf_X5_39 : xF RX5 39 5 5 := ⟨RX5, TX5, 10, rfl, by decide, tw_180, xlay_X5, ⟨tyX5, tyX5_ok⟩, nmX5⟩
theorem xf_X5_46 : xF RX5 46 5 6 := ⟨RX5, TX5, 10, rfl, by decide, tw_181, xlay_X5, ⟨tyX5, tyX5_ok⟩, nmX5⟩
theorem xf_X5_50 : xF RX5 50 5 7 := ⟨RX5, TX5, 10, rfl, by decide, tw_182, xlay_X5, ⟨tyX5, tyX5_ok⟩, nmX5⟩
theorem xf_X5_232 : xF RX5 232 5 8 := ⟨RX5, TX5, 10, rfl, by decide, tw_183, xlay_X5, ⟨tyX5, tyX5_ok⟩, nmX5⟩
theorem xf_X5_68 : xF RX5 68 5 9 := ⟨RX5, TX5, 10, rfl, by decide, tw_184, xlay_X5, ⟨tyX5, tyX5_ok⟩, nmX5⟩
theorem xf_X6_7 : xF RX6 7 6 0 := ⟨RX6, TX6, 23, rfl, by decide, tw_585, xlay_X6, ⟨tyX6, tyX6_ok⟩, nmX6⟩
theorem xf_X6_13 : xF RX6 13 6 1 := ⟨RX6, TX6, 23, rfl, by decide, tw_586, xlay_X6, ⟨tyX6, tyX6_ok⟩, nmX6⟩
theorem xf_X6_16 : xF RX6 16 6 2 := ⟨RX6, TX6, 23, rfl, by decide, tw_587, xlay_X6, ⟨tyX6, tyX6_ok⟩, nmX6⟩
theorem xf_X6_50 : xF RX6 50 6 3 := ⟨RX6, TX6, 23, rfl, by decide, tw_588, xlay_X6, ⟨tyX6, tyX6_ok⟩, nmX6⟩
theorem xf_X6_19 : xF RX6 19 6 4 := ⟨RX6, TX6, 23, rfl, by decide, tw_589, xlay_X6, ⟨tyX6, tyX6_ok⟩, nmX6⟩
theorem xf_X6_22 : xF RX6 22 6 5 := ⟨RX6, TX6, 23, rfl, by decide, tw_590, xlay_X6, ⟨tyX6, tyX6_ok⟩, nmX6⟩
theorem xf_X6_25 : xF RX6 25 6 6 := ⟨RX6, TX6, 23, rfl, by decide, tw_591, xlay_X6, ⟨tyX6, tyX6_ok⟩, nmX6⟩
theorem xf_X6_28 : xF RX6 28 6 7 := ⟨RX6, TX6, 23, rfl, by decide, tw_592, xlay_X6, ⟨tyX6, tyX6_ok⟩, nmX6⟩
theorem xf_X6_136 : xF RX6 136 6 8 := ⟨RX6, TX6, 23, rfl, by decide, tw_593, xlay_X6, ⟨tyX6, tyX6_ok⟩, nmX6⟩
theorem xf_X6_31 : xF RX6 31 6 9 := ⟨RX6, TX6, 23, rfl, by decide, tw_594, xlay_X6, ⟨tyX6, tyX6_ok⟩, nmX6⟩
theorem xf_X6_34 : xF RX6 34 6 10 := ⟨RX6, TX6, 23, rfl, by decide, tw_595, xlay_X6, ⟨tyX6, tyX6_ok⟩, nmX6⟩
theorem xf_X6_38 : xF RX6 38 6 11 := ⟨RX6, TX6, 23, rfl, by decide, tw_596, xlay_X6, ⟨tyX6, tyX6_ok⟩, nmX6⟩
theorem xf_X6_77 : xF RX6 77 6 12 := ⟨RX6, TX6, 23, rfl, by decide, tw_597, xlay_X6, ⟨tyX6, tyX6_ok⟩, nmX6⟩
theorem xf_X6_128 : xF RX6 128 6 13 := ⟨RX6, TX6, 23, rfl, by decide, tw_598, xlay_X6, ⟨tyX6, tyX6_ok⟩, nmX6⟩
theorem xf_X6_41 : xF RX6 41 6 14 := ⟨RX6, TX6, 23, rfl, by decide, tw_599, xlay_X6, ⟨tyX6, tyX6_ok⟩, nmX6⟩
theorem xf_X6_218 : xF RX6 218 6 15 := ⟨RX6, TX6, 23, rfl, by decide, tw_600, xlay_X6, ⟨tyX6, tyX6_ok⟩, nmX6⟩
theorem xf_X6_81 : xF RX6 81 6 16 := ⟨RX6, TX6, 23, rfl, by decide, tw_601, xlay_X6, ⟨tyX6, tyX6_ok⟩, nmX6⟩
theorem xf_X6_84 : xF RX6 84 6 17 := ⟨RX6, TX6, 23, rfl, by decide, tw_602, xlay_X6, ⟨tyX6, tyX6_ok⟩, nmX6⟩
theorem xf_X6_102 : xF RX6 102 6 18 := ⟨RX6, TX6, 23, rfl, by decide, tw_603, xlay_X6, ⟨tyX6, tyX6_ok⟩, nmX6⟩
theorem xf_X6_91 : xF RX6 91 6 19 := ⟨RX6, TX6, 23, rfl, by decide, tw_604, xlay_X6, ⟨tyX6, tyX6_ok⟩, nmX6⟩
theorem xf_X6_105 : xF RX6 105 6 20 := ⟨RX6, TX6, 23, rfl, by decide, tw_605, xlay_X6, ⟨tyX6, tyX6_ok⟩, nmX6⟩
theorem xf_X6_44 : xF RX6 44 6 21 := ⟨RX6, TX6, 23, rfl, by decide, tw_606, xlay_X6, ⟨tyX6, tyX6_ok⟩, nmX6⟩
theorem xf_X6_47 : xF RX6 47 6 22 := ⟨RX6, TX6, 23, rfl, by decide, tw_607, xlay_X6, ⟨tyX6, tyX6_ok⟩, nmX6⟩
theorem xt_X0_0 : xFt 0 0 true (.array .int) := ⟨rfl, by decide +kernel, fun _ => rfl⟩
theorem xt_X0_1 : xFt 0 1 true (.array .int) := ⟨rfl, by decide +kernel, fun _ => rfl⟩
theorem xt_X0_2 : xFt 0 2 true (.array .int) := ⟨rfl, by decide +kernel, fun _ => rfl⟩
theorem xt_X0_3 : xFt 0 3 true (.array .int) := ⟨rfl, by decide +kernel, fun _ => rfl⟩
theorem xt_X0_4 : xFt 0 4 false .int := ⟨rfl, by decide +kernel, fun h => by cases h⟩
theorem xt_X0_5 : xFt 0 5 false .int := ⟨rfl, by decide +kernel, fun h => by cases h⟩
theorem xt_X1_0 : xFt 1 0 true (.array .int) := ⟨rfl, by decide +kernel, fun _ => rfl⟩
theorem xt_X1_1 : xFt 1 1 true (.array .int) := ⟨rfl, by decide +kernel, fun _ => rfl⟩
theorem xt_X1_2 : xFt 1 2 true (.array .int) := ⟨rfl, by decide +kernel, fun _ => rfl⟩
theorem xt_X1_3 : xFt 1 3 true (.array .int) := ⟨rfl, by decide +kernel, fun _ => rfl⟩
theorem xt_X1_4 : xFt 1 4 true (.array .int) := ⟨rfl, by decide +kernel, fun _ => rfl⟩
theorem xt_X1_5 : xFt 1 5 false .boolean := ⟨rfl, by decide +kernel, fun h => by cases h⟩
theorem xt_X1_6 : xFt 1 6 false .int := ⟨rfl, by decide +kernel, fun h => by cases h⟩
theorem xt_X1_7 : xFt 1 7 false .int := ⟨rfl, by decide +kernel, fun h => by cases h⟩
theorem xt_X1_8 : xFt 1 8 false .int := ⟨rfl, by decide +kernel, fun h => by cases h⟩
theorem xt_X1_9 : xFt 1 9 false .int := ⟨rfl, by decide +kernel, fun h => by cases h⟩
theorem xt_X1_10 : xFt 1 10 false .int := ⟨rfl, by decide +kernel, fun h => by cases h⟩
theorem xt_X2_0 : xFt 2 0 true (.array .int) := ⟨rfl, by decide +kernel, fun _ => rfl⟩
theorem xt_X2_1 : xFt 2 1 true (.array .int) := ⟨rfl, by decide +kernel, fun _ => rfl⟩
theorem xt_X2_2 : xFt 2 2 true (.array .int) := ⟨rfl, by decide +kernel, fun _ => rfl⟩
theorem xt_X2_3 : xFt 2 3 false .int := ⟨rfl, by decide +kernel, fun h => by cases h⟩
theorem xt_X3_0 : xFt 3 0 true (.array .int) := ⟨rfl, by decide +kernel, fun _ => rfl⟩
theorem xt_X3_1 : xFt 3 1 false .int := ⟨rfl, by decide +kernel, fun h => by cases h⟩
theorem xt_X3_2 : xFt 3 2 false .int := ⟨rfl, by decide +kernel, fun h => by cases h⟩
theorem xt_X4_0 : xFt 4 0 true (.array .int) := ⟨rfl, by decide +kernel, fun _ => rfl⟩
theorem xt_X4_1 : xFt 4 1 false .int := ⟨rfl, by decide +kernel, fun h => by cases h⟩
theorem xt_X4_2 : xFt 4 2 false .int := ⟨rfl, by decide +kernel, fun h => by cases h⟩
theorem xt_X4_3 : xFt 4 3 false .int := ⟨rfl, by decide +kernel, fun h => by cases h⟩
theorem xt_X5_0 : xFt 5 0 true (.array (.object "HammockReach$Row")) := ⟨rfl, by decide +kernel, fun _ => rfl⟩
theorem xt_X5_1 : xFt 5 1 true (.object "HammockReach$Tape") := ⟨rfl, by decide +kernel, fun _ => rfl⟩
theorem xt_X5_2 : xFt 5 2 true (.object "HammockReach$Forest") := ⟨rfl, by decide +kernel, fun _ => rfl⟩
theorem xt_X5_3 : xFt 5 3 true (.object "HammockReach$Forest") := ⟨rfl, by decide +kernel, fun _ => rfl⟩
theorem xt_X5_4 : xFt 5 4 true (.array (.object "HammockReach$Forest")) := ⟨rfl, by decide +kernel, fun _ => rfl⟩
theorem xt_X5_5 : xFt 5 5 true (.object "HammockReach$Acts") := ⟨rfl, by decide +kernel, fun _ => rfl⟩
theorem xt_X5_6 : xFt 5 6 true (.object "HammockReach$Outlook") := ⟨rfl, by decide +kernel, fun _ => rfl⟩
theorem xt_X5_7 : xFt 5 7 true (.array .int) := ⟨rfl, by decide +kernel, fun _ => rfl⟩
theorem xt_X5_8 : xFt 5 8 false .int := ⟨rfl, by decide +kernel, fun h => by cases h⟩
theorem xt_X5_9 : xFt 5 9 false .int := ⟨rfl, by decide +kernel, fun h => by cases h⟩
theorem xt_X6_0 : xFt 6 0 true (.array .int) := ⟨rfl, by decide +kernel, fun _ => rfl⟩
theorem xt_X6_1 : xFt 6 1 true (.array .int) := ⟨rfl, by decide +kernel, fun _ => rfl⟩
theorem xt_X6_2 : xFt 6 2 true (.array .int) := ⟨rfl, by decide +kernel, fun _ => rfl⟩
theorem xt_X6_3 : xFt 6 3 false .int := ⟨rfl, by decide +kernel, fun h => by cases h⟩
theorem xt_X6_4 : xFt 6 4 true (.array .int) := ⟨rfl, by decide +kernel, fun _ => rfl⟩
theorem xt_X6_5 : xFt 6 5 true (.array .int) := ⟨rfl, by decide +kernel, fun _ => rfl⟩
theorem xt_X6_6 : xFt 6 6 true (.array .int) := ⟨rfl, by decide +kernel, fun _ => rfl⟩
theorem xt_X6_7 : xFt 6 7 true (.array .int) := ⟨rfl, by decide +kernel, fun _ => rfl⟩
theorem xt_X6_8 : xFt 6 8 false .int := ⟨rfl, by decide +kernel, fun h => by cases h⟩
theorem xt_X6_9 : xFt 6 9 true (.array .int) := ⟨rfl, by decide +kernel, fun _ => rfl⟩
theorem xt_X6_10 : xFt 6 10 true (.array .boolean) := ⟨rfl, by decide +kernel, fun _ => rfl⟩
theorem xt_X6_11 : xFt 6 11 true (.array .int) := ⟨rfl, by decide +kernel, fun _ => rfl⟩
theorem xt_X6_12 : xFt 6 12 false .int := ⟨rfl, by decide +kernel, fun h => by cases h⟩
theorem xt_X6_13 : xFt 6 13 false .int := ⟨rfl, by decide +kernel, fun h => by cases h⟩
theorem xt_X6_14 : xFt 6 14 true (.array .int) := ⟨rfl, by decide +kernel, fun _ => rfl⟩
theorem xt_X6_15 : xFt 6 15 false .int := ⟨rfl, by decide +kernel, fun h => by cases h⟩
theorem xt_X6_16 : xFt 6 16 false .int := ⟨rfl, by decide +kernel, fun h => by cases h⟩
theorem xt_X6_17 : xFt 6 17 false .int := ⟨rfl, by decide +kernel, fun h => by cases h⟩
theorem xt_X6_18 : xFt 6 18 false .int := ⟨rfl, by decide +kernel, fun h => by cases h⟩
theorem xt_X6_19 : xFt 6 19 false .int := ⟨rfl, by decide +kernel, fun h => by cases h⟩
theorem xt_X6_20 : xFt 6 20 false .int := ⟨rfl, by decide +kernel, fun h => by cases h⟩
theorem xt_X6_21 : xFt 6 21 true (.array .int) := ⟨rfl, by decide +kernel, fun _ => rfl⟩
theorem xt_X6_22 : xFt 6 22 true (.array .int) := ⟨rfl, by decide +kernel, fun _ => rfl⟩
theorem xm_X0_init : xM RX0 yX0_init cX0_init 1 none 0 := ⟨tw_116, tw_4, by decide +kernel⟩
theorem xm_X0_forget : xMV RX0 yX0_forget cX0_forget 1 none 0 := ⟨⟨tw_314, tw_4, by decide +kernel⟩, tw_312, tw_313⟩
theorem xm_X0_keep : xMV RX0 yX0_keep cX0_keep 6 none 4 := ⟨⟨tw_327, tw_4, by decide +kernel⟩, tw_325, tw_326⟩
theorem xm_X0_takeBack : xMV RX0 yX0_takeBack cX0_takeBack 4 none 1 := ⟨⟨tw_380, tw_4, by decide +kernel⟩, tw_378, tw_379⟩
theorem xm_X1_init : xM RX1 yX1_init cX1_init 1 none 0 := ⟨tw_49, tw_3, by decide +kernel⟩
theorem xm_X1_begin : xMV RX1 yX1_begin cX1_begin 1 none 0 := ⟨⟨tw_265, tw_3, by decide +kernel⟩, tw_263, tw_264⟩
theorem xm_X1_takeFrom : xMV RX1 yX1_takeFrom cX1_takeFrom 2 none 1 := ⟨⟨tw_309, tw_3, by decide +kernel⟩, tw_307, tw_308⟩
theorem xm_X1_isCut : xMV RX1 yX1_isCut cX1_isCut 2 (some .boolean) 1 := ⟨⟨tw_339, tw_3, by decide +kernel⟩, tw_337, tw_338⟩
theorem xm_X1_dip : xMV RX1 yX1_dip cX1_dip 5 (some .int) 2 := ⟨⟨tw_343, tw_3, by decide +kernel⟩, tw_341, tw_342⟩
theorem xm_X1_isDown : xMV RX1 yX1_isDown cX1_isDown 3 (some .boolean) 2 := ⟨⟨tw_335, tw_3, by decide +kernel⟩, tw_333, tw_334⟩
theorem xm_X1_downBits : xMV RX1 yX1_downBits cX1_downBits 4 (some .int) 1 := ⟨⟨tw_331, tw_3, by decide +kernel⟩, tw_329, tw_330⟩
theorem xm_X1_place : xMV RX1 yX1_place cX1_place 3 (some .int) 2 := ⟨⟨tw_355, tw_3, by decide +kernel⟩, tw_353, tw_354⟩
theorem xm_X1_offset : xMV RX1 yX1_offset cX1_offset 3 (some .int) 2 := ⟨⟨tw_359, tw_3, by decide +kernel⟩, tw_358, (TT_sel 10 (by decide +kernel) rfl)⟩
theorem xm_X1_swung : xMS RX1 yX1_swung cX1_swung 3 (some .int) 2 := ⟨⟨tw_362, tw_3, by decide +kernel⟩, tw_361⟩
theorem xm_X1_spot : xMV RX1 yX1_spot cX1_spot 3 (some .int) 2 := ⟨⟨tw_407, tw_3, by decide +kernel⟩, tw_405, tw_406⟩
theorem xm_X1_areNear : xMV RX1 yX1_areNear cX1_areNear 3 (some .boolean) 2 := ⟨⟨tw_412, tw_3, by decide +kernel⟩, tw_410, tw_411⟩
theorem xm_X1_nearBits : xMV RX1 yX1_nearBits cX1_nearBits 6 (some .int) 2 := ⟨⟨tw_403, tw_3, by decide +kernel⟩, tw_401, tw_402⟩
theorem xm_X2_init : xM RX2 yX2_init cX2_init 1 none 0 := ⟨tw_142, tw_5, by decide +kernel⟩
theorem xm_X2_foresee : xMV RX2 yX2_foresee cX2_foresee 6 none 2 := ⟨⟨tw_434, tw_5, by decide +kernel⟩, tw_432, tw_433⟩
theorem xm_X2_foreseeAnew : xMV RX2 yX2_foreseeAnew cX2_foreseeAnew 6 none 3 := ⟨⟨tw_477, tw_5, by decide +kernel⟩, tw_475, tw_476⟩
theorem xm_X2_link : xMV RX2 yX2_link cX2_link 6 none 3 := ⟨⟨tw_439, tw_5, by decide +kernel⟩, tw_438, (TT_sel 12 (by decide +kernel) rfl)⟩
theorem xm_X2_spread : xMV RX2 yX2_spread cX2_spread 6 (some .int) 3 := ⟨⟨tw_448, tw_5, by decide +kernel⟩, tw_447, (TT_sel 13 (by decide +kernel) rfl)⟩
theorem xm_X2_holders : xMV RX2 yX2_holders cX2_holders 5 (some .int) 2 := ⟨⟨tw_465, tw_5, by decide +kernel⟩, tw_463, tw_464⟩
theorem xm_X2_arrival : xMV RX2 yX2_arrival cX2_arrival 7 (some .int) 4 := ⟨⟨tw_444, tw_5, by decide +kernel⟩, tw_442, tw_443⟩
theorem xm_X2_fewestHands : xMV RX2 yX2_fewestHands cX2_fewestHands 5 (some .int) 2 := ⟨⟨tw_457, tw_5, by decide +kernel⟩, tw_455, tw_456⟩
theorem xm_X3_init : xM RX3 yX3_init cX3_init 1 none 0 := ⟨tw_160, tw_6, by decide +kernel⟩
theorem xm_X3_begin : xMV RX3 yX3_begin cX3_begin 4 none 2 := ⟨⟨tw_225, tw_6, by decide +kernel⟩, tw_223, tw_224⟩
theorem xm_X3_narrowed : xMV RX3 yX3_narrowed cX3_narrowed 2 (some .int) 1 := ⟨⟨tw_233, tw_6, by decide +kernel⟩, tw_231, tw_232⟩
theorem xm_X3_hasSpan : xMV RX3 yX3_hasSpan cX3_hasSpan 3 (some .boolean) 2 := ⟨⟨tw_241, tw_6, by decide +kernel⟩, tw_239, tw_240⟩
theorem xm_X4_init : xM RX4 yX4_init cX4_init 1 none 0 := ⟨tw_25, tw_2, by decide +kernel⟩
theorem xm_X4_readInto : xMV RX4 yX4_readInto cX4_readInto 3 (some .boolean) 1 := ⟨⟨tw_261, tw_2, by decide +kernel⟩, tw_259, tw_260⟩
theorem xm_X4_readLaw : xMV RX4 yX4_readLaw cX4_readLaw 2 (some .boolean) 1 := ⟨⟨tw_269, tw_2, by decide +kernel⟩, tw_268, (TT_sel 1 (by decide +kernel) rfl)⟩
theorem xm_X4_readHammock : xMV RX4 yX4_readHammock cX4_readHammock 4 (some .boolean) 1 := ⟨⟨tw_293, tw_2, by decide +kernel⟩, tw_292, (TT_sel 6 (by decide +kernel) rfl)⟩
theorem xm_X4_readTrees : xMV RX4 yX4_readTrees cX4_readTrees 3 (some .boolean) 2 := ⟨⟨tw_300, tw_2, by decide +kernel⟩, tw_299, (TT_sel 7 (by decide +kernel) rfl)⟩
theorem xm_X4_readLoad : xMV RX4 yX4_readLoad cX4_readLoad 3 (some .boolean) 2 := ⟨⟨tw_304, tw_2, by decide +kernel⟩, tw_303, (TT_sel 8 (by decide +kernel) rfl)⟩
theorem xm_X4_readSign : xMV RX4 yX4_readSign cX4_readSign 2 (some .boolean) 1 := ⟨⟨tw_273, tw_2, by decide +kernel⟩, tw_272, (TT_sel 2 (by decide +kernel) rfl)⟩
theorem xm_X4_readNumber : xMV RX4 yX4_readNumber cX4_readNumber 6 (some .int) 2 := ⟨⟨tw_286, tw_2, by decide +kernel⟩, tw_285, (TT_sel 5 (by decide +kernel) rfl)⟩
theorem xm_X4_refuse : xMV RX4 yX4_refuse cX4_refuse 2 (some .boolean) 1 := ⟨⟨tw_282, tw_2, by decide +kernel⟩, tw_281, (TT_sel 4 (by decide +kernel) rfl)⟩
theorem xm_X4_byteAt : xMV RX4 yX4_byteAt cX4_byteAt 2 (some .int) 1 := ⟨⟨tw_277, tw_2, by decide +kernel⟩, tw_276, (TT_sel 3 (by decide +kernel) rfl)⟩
theorem xm_X4_isFigure : xMS RX4 yX4_isFigure cX4_isFigure 1 (some .boolean) 1 := ⟨⟨tw_289, tw_2, by decide +kernel⟩, tw_288⟩
theorem xm_X4_sortOf : xMS RX4 yX4_sortOf cX4_sortOf 1 (some .int) 1 := ⟨⟨tw_296, tw_2, by decide +kernel⟩, tw_295⟩
theorem xm_X5_init : xM RX5 yX5_init cX5_init 2 none 0 := ⟨tw_15, tw_1, by decide +kernel⟩
theorem xm_X5_row : xMV RX5 yX5_row cX5_row 4 (some .int) 3 := ⟨⟨tw_209, tw_1, by decide +kernel⟩, tw_207, tw_208⟩
theorem xm_X5_set : xMV RX5 yX5_set cX5_set 5 (some .int) 3 := ⟨⟨tw_229, tw_1, by decide +kernel⟩, tw_227, tw_228⟩
theorem xm_X5_copy : xMV RX5 yX5_copy cX5_copy 8 (some .int) 5 := ⟨⟨tw_237, tw_1, by decide +kernel⟩, tw_235, tw_236⟩
theorem xm_X5_drop : xMV RX5 yX5_drop cX5_drop 3 (some .int) 1 := ⟨⟨tw_248, tw_1, by decide +kernel⟩, tw_246, tw_247⟩
theorem xm_X5_feed : xMV RX5 yX5_feed cX5_feed 2 (some .int) 1 := ⟨⟨tw_252, tw_1, by decide +kernel⟩, tw_250, tw_251⟩
theorem xm_X5_forest : xMV RX5 yX5_forest cX5_forest 2 (some .int) 0 := ⟨⟨tw_257, tw_1, by decide +kernel⟩, tw_255, tw_256⟩
theorem xm_X5_fault : xMV RX5 yX5_fault cX5_fault 1 (some .int) 0 := ⟨⟨tw_318, tw_1, by decide +kernel⟩, tw_316, tw_317⟩
theorem xm_X5_minutes : xMV RX5 yX5_minutes cX5_minutes 3 (some .int) 1 := ⟨⟨tw_322, tw_1, by decide +kernel⟩, tw_320, tw_321⟩
theorem xm_X5_sling : xMV RX5 yX5_sling cX5_sling 4 (some .int) 3 := ⟨⟨tw_347, tw_1, by decide +kernel⟩, tw_345, tw_346⟩
theorem xm_X5_load : xMV RX5 yX5_load cX5_load 3 (some .int) 2 := ⟨⟨tw_366, tw_1, by decide +kernel⟩, tw_364, tw_365⟩
theorem xm_X5_cord : xMV RX5 yX5_cord cX5_cord 3 (some .int) 2 := ⟨⟨tw_371, tw_1, by decide +kernel⟩, tw_369, tw_370⟩
theorem xm_X5_undo : xMV RX5 yX5_undo cX5_undo 1 (some .int) 0 := ⟨⟨tw_376, tw_1, by decide +kernel⟩, tw_374, tw_375⟩
theorem xm_X5_hammock : xMV RX5 yX5_hammock cX5_hammock 3 (some .int) 2 := ⟨⟨tw_384, tw_1, by decide +kernel⟩, tw_382, tw_383⟩
theorem xm_X5_ahead : xMV RX5 yX5_ahead cX5_ahead 5 (some .int) 3 := ⟨⟨tw_388, tw_1, by decide +kernel⟩, tw_386, tw_387⟩
theorem xm_X5_down : xMV RX5 yX5_down cX5_down 2 (some .int) 1 := ⟨⟨tw_395, tw_1, by decide +kernel⟩, tw_393, tw_394⟩
theorem xm_X5_reach : xMV RX5 yX5_reach cX5_reach 3 (some .int) 2 := ⟨⟨tw_399, tw_1, by decide +kernel⟩, tw_397, tw_398⟩
theorem xm_X5_meet : xMV RX5 yX5_meet cX5_meet 4 (some .int) 2 := ⟨⟨tw_419, tw_1, by decide +kernel⟩, tw_417, tw_418⟩
theorem xm_X5_soonest : xMV RX5 yX5_soonest cX5_soonest 3 (some .int) 2 := ⟨⟨tw_430, tw_1, by decide +kernel⟩, tw_428, tw_429⟩
theorem xm_X5_hands : xMV RX5 yX5_hands cX5_hands 3 (some .int) 2 := ⟨⟨tw_453, tw_1, by decide +kernel⟩, tw_451, tw_452⟩
theorem xm_X5_everywhere : xMV RX5 yX5_everywhere cX5_everywhere 3 (some .int) 2 := ⟨⟨tw_461, tw_1, by decide +kernel⟩, tw_459, tw_460⟩
theorem xm_X5_stops : xMV RX5 yX5_stops cX5_stops 6 (some .int) 3 := ⟨⟨tw_469, tw_1, by decide +kernel⟩, tw_467, tw_468⟩
theorem xm_X5_toSling : xMV RX5 yX5_toSling cX5_toSling 10 (some .int) 4 := ⟨⟨tw_473, tw_1, by decide +kernel⟩, tw_471, tw_472⟩
theorem xm_X5_fits : xMV RX5 yX5_fits cX5_fits 7 (some .int) 5 := ⟨⟨tw_481, tw_1, by decide +kernel⟩, tw_479, tw_480⟩
theorem xm_X5_breaks : xMV RX5 yX5_breaks cX5_breaks 9 (some .int) 5 := ⟨⟨tw_505, tw_1, by decide +kernel⟩, tw_503, tw_504⟩
theorem xm_X5_image : xMV RX5 yX5_image cX5_image 2 (some .int) 1 := ⟨⟨tw_520, tw_1, by decide +kernel⟩, tw_518, tw_519⟩
theorem xm_X5_restore : xMV RX5 yX5_restore cX5_restore 2 (some .int) 1 := ⟨⟨tw_524, tw_1, by decide +kernel⟩, tw_522, tw_523⟩
theorem xm_X5_kind : xMV RX5 yX5_kind cX5_kind 2 (some .int) 1 := ⟨⟨tw_528, tw_1, by decide +kernel⟩, tw_526, tw_527⟩
theorem xm_X5_as : xMV RX5 yX5_as cX5_as 3 (some .int) 2 := ⟨⟨tw_532, tw_1, by decide +kernel⟩, tw_530, tw_531⟩
theorem xm_X5_ask : xMV RX5 yX5_ask cX5_ask 3 (some .int) 2 := ⟨⟨tw_541, tw_1, by decide +kernel⟩, tw_539, tw_540⟩
theorem xm_X5_trace : xMV RX5 yX5_trace cX5_trace 2 (some .int) 1 := ⟨⟨tw_560, tw_1, by decide +kernel⟩, tw_558, tw_559⟩
theorem xm_X5_count : xMV RX5 yX5_count cX5_count 2 (some .int) 1 := ⟨⟨tw_564, tw_1, by decide +kernel⟩, tw_562, tw_563⟩
theorem xm_X5_status : xMV RX5 yX5_status cX5_status 1 (some .int) 0 := ⟨⟨tw_578, tw_1, by decide +kernel⟩, tw_576, tw_577⟩
theorem xm_X5_isBelow : xMS RX5 yX5_isBelow cX5_isBelow 2 (some .boolean) 2 := ⟨⟨tw_215, tw_1, by decide +kernel⟩, tw_214⟩
theorem xm_X5_isRow : xMS RX5 yX5_isRow cX5_isRow 1 (some .boolean) 1 := ⟨⟨tw_212, tw_1, by decide +kernel⟩, tw_211⟩
theorem xm_X5_isAhead : xMS RX5 yX5_isAhead cX5_isAhead 1 (some .boolean) 1 := ⟨⟨tw_391, tw_1, by decide +kernel⟩, tw_390⟩
theorem xm_X5_isHammock : xMV RX5 yX5_isHammock cX5_isHammock 2 (some .boolean) 1 := ⟨⟨tw_351, tw_1, by decide +kernel⟩, tw_350, (TT_sel 9 (by decide +kernel) rfl)⟩
theorem xm_X5_areTwo : xMV RX5 yX5_areTwo cX5_areTwo 3 (some .boolean) 2 := ⟨⟨tw_423, tw_1, by decide +kernel⟩, tw_422, (TT_sel 11 (by decide +kernel) rfl)⟩
theorem xm_X5_finds : xMV RX5 yX5_finds cX5_finds 2 (some .int) 1 := ⟨⟨tw_220, tw_1, by decide +kernel⟩, tw_219, (TT_sel 0 (by decide +kernel) rfl)⟩
theorem xm_X5_countRows : xMV RX5 yX5_countRows cX5_countRows 3 (some .int) 0 := ⟨⟨tw_568, tw_1, by decide +kernel⟩, tw_567, (TT_sel 23 (by decide +kernel) rfl)⟩
theorem xm_X5_fittingKinds : xMV RX5 yX5_fittingKinds cX5_fittingKinds 7 (some .int) 4 := ⟨⟨tw_485, tw_1, by decide +kernel⟩, tw_484, (TT_sel 14 (by decide +kernel) rfl)⟩
theorem xm_X5_fittingSwings : xMV RX5 yX5_fittingSwings cX5_fittingSwings 7 (some .int) 4 := ⟨⟨tw_493, tw_1, by decide +kernel⟩, tw_492, (TT_sel 16 (by decide +kernel) rfl)⟩
theorem xm_X5_fittingWeights : xMV RX5 yX5_fittingWeights cX5_fittingWeights 7 (some .int) 4 := ⟨⟨tw_497, tw_1, by decide +kernel⟩, tw_496, (TT_sel 17 (by decide +kernel) rfl)⟩
theorem xm_X5_wasThere : xMV RX5 yX5_wasThere cX5_wasThere 6 (some .boolean) 4 := ⟨⟨tw_489, tw_1, by decide +kernel⟩, tw_488, (TT_sel 15 (by decide +kernel) rfl)⟩
theorem xm_X5_wasReached : xMV RX5 yX5_wasReached cX5_wasReached 6 (some .boolean) 4 := ⟨⟨tw_501, tw_1, by decide +kernel⟩, tw_500, (TT_sel 18 (by decide +kernel) rfl)⟩
theorem xm_X5_partsOf : xMV RX5 yX5_partsOf cX5_partsOf 5 (some .int) 2 := ⟨⟨tw_509, tw_1, by decide +kernel⟩, tw_508, (TT_sel 19 (by decide +kernel) rfl)⟩
theorem xm_X5_partsOfAll : xMV RX5 yX5_partsOfAll cX5_partsOfAll 3 (some .int) 0 := ⟨⟨tw_513, tw_1, by decide +kernel⟩, tw_512, (TT_sel 20 (by decide +kernel) rfl)⟩
theorem xm_X5_commonDivisor : xMS RX5 yX5_commonDivisor cX5_commonDivisor 6 (some .int) 2 := ⟨⟨tw_516, tw_1, by decide +kernel⟩, tw_515⟩
theorem xm_X5_isOfKind : xMS RX5 yX5_isOfKind cX5_isOfKind 4 (some .boolean) 2 := ⟨⟨tw_535, tw_1, by decide +kernel⟩, tw_534⟩
theorem xm_X5_nearestBody : xMS RX5 yX5_nearestBody cX5_nearestBody 5 (some .int) 2 := ⟨⟨tw_548, tw_1, by decide +kernel⟩, tw_547⟩
theorem xm_X5_answer : xMV RX5 yX5_answer cX5_answer 4 (some .int) 3 := ⟨⟨tw_545, tw_1, by decide +kernel⟩, tw_544, (TT_sel 21 (by decide +kernel) rfl)⟩
theorem xm_X5_body : xMV RX5 yX5_body cX5_body 5 (some .int) 3 := ⟨⟨tw_556, tw_1, by decide +kernel⟩, tw_555, (TT_sel 22 (by decide +kernel) rfl)⟩
theorem xm_X6_init : xM RX6 yX6_init cX6_init 2 none 0 := ⟨tw_583, tw_7, by decide +kernel⟩
theorem xm_X6_in : xMS RX6 yX6_in cX6_in 6 (some .boolean) 3 := ⟨⟨tw_666, tw_7, by decide +kernel⟩, tw_665⟩
theorem xm_X6_found : xMV RX6 yX6_found cX6_found 2 (some .int) 1 := ⟨⟨tw_672, tw_7, by decide +kernel⟩, tw_671, (TT_sel 24 (by decide +kernel) rfl)⟩
theorem xm_X6_well : xMV RX6 yX6_well cX6_well 2 (some .int) 1 := ⟨⟨tw_677, tw_7, by decide +kernel⟩, tw_676, (TT_sel 25 (by decide +kernel) rfl)⟩
theorem xm_X6_isRow : xMS RX6 yX6_isRow cX6_isRow 1 (some .boolean) 1 := ⟨⟨tw_662, tw_7, by decide +kernel⟩, tw_661⟩
theorem xm_X6_row : xMV RX6 yX6_row cX6_row 5 (some .int) 3 := ⟨⟨tw_659, tw_7, by decide +kernel⟩, tw_657, tw_658⟩
theorem xm_X6_set : xMV RX6 yX6_set cX6_set 4 (some .int) 3 := ⟨⟨tw_681, tw_7, by decide +kernel⟩, tw_679, tw_680⟩
theorem xm_X6_copy : xMV RX6 yX6_copy cX6_copy 8 (some .int) 5 := ⟨⟨tw_685, tw_7, by decide +kernel⟩, tw_683, tw_684⟩
theorem xm_X6_drop : xMV RX6 yX6_drop cX6_drop 3 (some .int) 1 := ⟨⟨tw_689, tw_7, by decide +kernel⟩, tw_687, tw_688⟩
theorem xm_X6_feed : xMV RX6 yX6_feed cX6_feed 2 (some .int) 1 := ⟨⟨tw_693, tw_7, by decide +kernel⟩, tw_691, tw_692⟩
theorem xm_X6_here : xMV RX6 yX6_here cX6_here 1 (some .int) 0 := ⟨⟨tw_711, tw_7, by decide +kernel⟩, tw_710, (TT_sel 28 (by decide +kernel) rfl)⟩
theorem xm_X6_step : xMV RX6 yX6_step cX6_step 1 none 0 := ⟨⟨tw_707, tw_7, by decide +kernel⟩, tw_706, (TT_sel 27 (by decide +kernel) rfl)⟩
theorem xm_X6_fails : xMV RX6 yX6_fails cX6_fails 2 (some .boolean) 1 := ⟨⟨tw_719, tw_7, by decide +kernel⟩, tw_718, (TT_sel 29 (by decide +kernel) rfl)⟩
theorem xm_X6_number : xMV RX6 yX6_number cX6_number 5 (some .boolean) 4 := ⟨⟨tw_723, tw_7, by decide +kernel⟩, tw_722, (TT_sel 30 (by decide +kernel) rfl)⟩
theorem xm_X6_sortOf : xMS RX6 yX6_sortOf cX6_sortOf 1 (some .int) 1 := ⟨⟨tw_730, tw_7, by decide +kernel⟩, tw_729⟩
theorem xm_X6_readsHammock : xMV RX6 yX6_readsHammock cX6_readsHammock 3 (some .boolean) 0 := ⟨⟨tw_727, tw_7, by decide +kernel⟩, tw_726, (TT_sel 31 (by decide +kernel) rfl)⟩
theorem xm_X6_reads : xMV RX6 yX6_reads cX6_reads 2 (some .boolean) 0 := ⟨⟨tw_703, tw_7, by decide +kernel⟩, tw_702, (TT_sel 26 (by decide +kernel) rfl)⟩
theorem xm_X6_forest : xMV RX6 yX6_forest cX6_forest 2 (some .int) 0 := ⟨⟨tw_699, tw_7, by decide +kernel⟩, tw_697, tw_698⟩
theorem xm_X6_fault : xMV RX6 yX6_fault cX6_fault 1 (some .int) 0 := ⟨⟨tw_738, tw_7, by decide +kernel⟩, tw_736, tw_737⟩
theorem xm_X6_copies : xMS RX6 yX6_copies cX6_copies 5 none 4 := ⟨⟨tw_734, tw_7, by decide +kernel⟩, tw_733⟩
theorem xm_X6_has : xMS RX6 yX6_has cX6_has 2 (some .boolean) 2 := ⟨⟨tw_761, tw_7, by decide +kernel⟩, tw_760⟩
theorem xm_X6_dip : xMS RX6 yX6_dip cX6_dip 5 (some .int) 3 := ⟨⟨tw_764, tw_7, by decide +kernel⟩, tw_763⟩
theorem xm_X6_swung : xMS RX6 yX6_swung cX6_swung 3 (some .int) 2 := ⟨⟨tw_779, tw_7, by decide +kernel⟩, tw_778⟩
theorem xm_X6_where : xMS RX6 yX6_where cX6_where 6 (some .int) 3 := ⟨⟨tw_776, tw_7, by decide +kernel⟩, tw_775⟩
theorem xm_X6_isDown : xMS RX6 yX6_isDown cX6_isDown 3 (some .boolean) 3 := ⟨⟨tw_758, tw_7, by decide +kernel⟩, tw_757⟩
theorem xm_X6_downOf : xMS RX6 yX6_downOf cX6_downOf 4 (some .int) 2 := ⟨⟨tw_755, tw_7, by decide +kernel⟩, tw_754⟩
theorem xm_X6_areNear : xMS RX6 yX6_areNear cX6_areNear 5 (some .boolean) 4 := ⟨⟨tw_821, tw_7, by decide +kernel⟩, tw_820⟩
theorem xm_X6_reachOf : xMS RX6 yX6_reachOf cX6_reachOf 5 (some .int) 3 := ⟨⟨tw_818, tw_7, by decide +kernel⟩, tw_817⟩
theorem xm_X6_spread : xMS RX6 yX6_spread cX6_spread 7 (some .int) 3 := ⟨⟨tw_848, tw_7, by decide +kernel⟩, tw_847⟩
theorem xm_X6_soonestOf : xMS RX6 yX6_soonestOf cX6_soonestOf 7 (some .int) 3 := ⟨⟨tw_833, tw_7, by decide +kernel⟩, tw_832⟩
theorem xm_X6_isForest : xMV RX6 yX6_isForest cX6_isForest 1 (some .boolean) 0 := ⟨⟨tw_746, tw_7, by decide +kernel⟩, tw_745, (TT_sel 32 (by decide +kernel) rfl)⟩
theorem xm_X6_isHammock : xMV RX6 yX6_isHammock cX6_isHammock 2 (some .boolean) 1 := ⟨⟨tw_772, tw_7, by decide +kernel⟩, tw_771, (TT_sel 34 (by decide +kernel) rfl)⟩
theorem xm_X6_isTwo : xMS RX6 yX6_isTwo cX6_isTwo 1 (some .boolean) 1 := ⟨⟨tw_791, tw_7, by decide +kernel⟩, tw_790⟩
theorem xm_X6_isSpan : xMS RX6 yX6_isSpan cX6_isSpan 1 (some .boolean) 1 := ⟨⟨tw_806, tw_7, by decide +kernel⟩, tw_805⟩
theorem xm_X6_remember : xMV RX6 yX6_remember cX6_remember 2 none 0 := ⟨⟨tw_752, tw_7, by decide +kernel⟩, tw_751, (TT_sel 33 (by decide +kernel) rfl)⟩
theorem xm_X6_minutes : xMV RX6 yX6_minutes cX6_minutes 3 (some .int) 1 := ⟨⟨tw_742, tw_7, by decide +kernel⟩, tw_740, tw_741⟩
theorem xm_X6_sling : xMV RX6 yX6_sling cX6_sling 4 (some .int) 3 := ⟨⟨tw_768, tw_7, by decide +kernel⟩, tw_766, tw_767⟩
theorem xm_X6_load : xMV RX6 yX6_load cX6_load 3 (some .int) 2 := ⟨⟨tw_783, tw_7, by decide +kernel⟩, tw_781, tw_782⟩
theorem xm_X6_cord : xMV RX6 yX6_cord cX6_cord 3 (some .int) 2 := ⟨⟨tw_788, tw_7, by decide +kernel⟩, tw_786, tw_787⟩
theorem xm_X6_undo : xMV RX6 yX6_undo cX6_undo 1 (some .int) 0 := ⟨⟨tw_795, tw_7, by decide +kernel⟩, tw_793, tw_794⟩
theorem xm_X6_hammock : xMV RX6 yX6_hammock cX6_hammock 3 (some .int) 2 := ⟨⟨tw_799, tw_7, by decide +kernel⟩, tw_797, tw_798⟩
theorem xm_X6_ahead : xMV RX6 yX6_ahead cX6_ahead 4 (some .int) 3 := ⟨⟨tw_803, tw_7, by decide +kernel⟩, tw_801, tw_802⟩
theorem xm_X6_down : xMV RX6 yX6_down cX6_down 2 (some .int) 1 := ⟨⟨tw_811, tw_7, by decide +kernel⟩, tw_809, tw_810⟩
theorem xm_X6_reach : xMV RX6 yX6_reach cX6_reach 3 (some .int) 2 := ⟨⟨tw_815, tw_7, by decide +kernel⟩, tw_813, tw_814⟩
theorem xm_X6_meet : xMV RX6 yX6_meet cX6_meet 4 (some .int) 2 := ⟨⟨tw_825, tw_7, by decide +kernel⟩, tw_823, tw_824⟩
theorem xm_X6_told : xMS RX6 yX6_told cX6_told 1 (some .int) 1 := ⟨⟨tw_837, tw_7, by decide +kernel⟩, tw_836⟩
theorem xm_X6_soonest : xMV RX6 yX6_soonest cX6_soonest 3 (some .int) 2 := ⟨⟨tw_830, tw_7, by decide +kernel⟩, tw_828, tw_829⟩
theorem xm_X6_hands : xMV RX6 yX6_hands cX6_hands 7 (some .int) 2 := ⟨⟨tw_841, tw_7, by decide +kernel⟩, tw_839, tw_840⟩
theorem xm_X6_everywhere : xMV RX6 yX6_everywhere cX6_everywhere 3 (some .int) 2 := ⟨⟨tw_845, tw_7, by decide +kernel⟩, tw_843, tw_844⟩
theorem xm_X6_layAside : xMV RX6 yX6_layAside cX6_layAside 1 none 0 := ⟨⟨tw_856, tw_7, by decide +kernel⟩, tw_855, (TT_sel 35 (by decide +kernel) rfl)⟩
theorem xm_X6_stops : xMV RX6 yX6_stops cX6_stops 6 (some .int) 3 := ⟨⟨tw_852, tw_7, by decide +kernel⟩, tw_850, tw_851⟩
theorem xm_X6_toSling : xMV RX6 yX6_toSling cX6_toSling 10 (some .int) 4 := ⟨⟨tw_860, tw_7, by decide +kernel⟩, tw_858, tw_859⟩
theorem xm_X6_fits : xMV RX6 yX6_fits cX6_fits 14 (some .int) 5 := ⟨⟨tw_864, tw_7, by decide +kernel⟩, tw_862, tw_863⟩
theorem xm_X6_breaks : xMV RX6 yX6_breaks cX6_breaks 16 (some .int) 5 := ⟨⟨tw_869, tw_7, by decide +kernel⟩, tw_867, tw_868⟩
theorem xm_X6_image : xMV RX6 yX6_image cX6_image 2 (some .int) 1 := ⟨⟨tw_874, tw_7, by decide +kernel⟩, tw_872, tw_873⟩
theorem xm_X6_restore : xMV RX6 yX6_restore cX6_restore 2 (some .int) 1 := ⟨⟨tw_878, tw_7, by decide +kernel⟩, tw_876, tw_877⟩
theorem xm_X6_kind : xMV RX6 yX6_kind cX6_kind 2 (some .int) 1 := ⟨⟨tw_882, tw_7, by decide +kernel⟩, tw_880, tw_881⟩
theorem xm_X6_isOf : xMS RX6 yX6_isOf cX6_isOf 2 (some .boolean) 2 := ⟨⟨tw_890, tw_7, by decide +kernel⟩, tw_889⟩
theorem xm_X6_as : xMV RX6 yX6_as cX6_as 3 (some .int) 2 := ⟨⟨tw_886, tw_7, by decide +kernel⟩, tw_884, tw_885⟩
theorem xm_X6_leave : xMV RX6 yX6_leave cX6_leave 7 none 1 := ⟨⟨tw_905, tw_7, by decide +kernel⟩, tw_904, (TT_sel 37 (by decide +kernel) rfl)⟩
theorem xm_X6_mark : xMV RX6 yX6_mark cX6_mark 4 (some .int) 1 := ⟨⟨tw_898, tw_7, by decide +kernel⟩, tw_897, (TT_sel 36 (by decide +kernel) rfl)⟩
theorem xm_X6_sizeOf : xMV RX6 yX6_sizeOf cX6_sizeOf 4 (some .int) 1 := ⟨⟨tw_912, tw_7, by decide +kernel⟩, tw_911, (TT_sel 38 (by decide +kernel) rfl)⟩
theorem xm_X6_ask : xMV RX6 yX6_ask cX6_ask 5 (some .int) 2 := ⟨⟨tw_894, tw_7, by decide +kernel⟩, tw_892, tw_893⟩
theorem xm_X6_trace : xMV RX6 yX6_trace cX6_trace 2 (some .int) 1 := ⟨⟨tw_919, tw_7, by decide +kernel⟩, tw_917, tw_918⟩
theorem xm_X6_count : xMV RX6 yX6_count cX6_count 5 (some .int) 1 := ⟨⟨tw_923, tw_7, by decide +kernel⟩, tw_921, tw_922⟩
theorem xm_X6_status : xMV RX6 yX6_status cX6_status 1 (some .int) 0 := ⟨⟨tw_927, tw_7, by decide +kernel⟩, tw_925, tw_926⟩
theorem xm_J6_bitCount_0f7a4 : xMS RJ6 yJ6_bitCount_0f7a4 cJ6_bitCount_0f7a4 1 (some .int) 1 := ⟨⟨tw_571, tw_10, by decide +kernel⟩, tw_570⟩
theorem xm_J9_abs_0f7a4 : xMS RJ9 yJ9_abs_0f7a4 cJ9_abs_0f7a4 1 (some .int) 1 := ⟨⟨tw_415, tw_9, by decide +kernel⟩, tw_414⟩
theorem xk_L_9 : Cond.methodLink RL 9 yX5_init ∈ TT := tw_13
theorem xk_L_13 : Cond.methodLink RL 13 yX5_row ∈ TT := tw_206
theorem xk_X5_55 : Cond.methodLink RX5 55 yX5_isRow ∈ TT := tw_210
theorem xk_X5_59 : Cond.methodLink RX5 59 yX5_isBelow ∈ TT := tw_213
theorem xk_X5_64 : Cond.methodLink RX5 64 yX5_finds ∈ TT := tw_217
theorem xk_X5_72 : Cond.methodLink RX5 72 yX3_begin ∈ TT := tw_222
theorem xk_L_18 : Cond.methodLink RL 18 yX5_set ∈ TT := tw_226
theorem xk_X5_85 : Cond.methodLink RX5 85 yX3_narrowed ∈ TT := tw_230
theorem xk_L_22 : Cond.methodLink RL 22 yX5_copy ∈ TT := tw_234
theorem xk_X5_88 : Cond.methodLink RX5 88 yX3_hasSpan ∈ TT := tw_238
theorem xk_L_27 : Cond.methodLink RL 27 yX5_drop ∈ TT := tw_245
theorem xk_L_32 : Cond.methodLink RL 32 yX5_feed ∈ TT := tw_249
theorem xk_L_36 : Cond.methodLink RL 36 yX5_forest ∈ TT := tw_254
theorem xk_X5_104 : Cond.methodLink RX5 104 yX4_readInto ∈ TT := tw_258
theorem xk_X4_19 : Cond.methodLink RX4 19 yX1_begin ∈ TT := tw_262
theorem xk_X4_24 : Cond.methodLink RX4 24 yX4_readLaw ∈ TT := tw_266
theorem xk_X4_34 : Cond.methodLink RX4 34 yX4_readSign ∈ TT := tw_270
theorem xk_X4_51 : Cond.methodLink RX4 51 yX4_byteAt ∈ TT := tw_274
theorem xk_X4_58 : Cond.methodLink RX4 58 yX4_refuse ∈ TT := tw_279
theorem xk_X4_38 : Cond.methodLink RX4 38 yX4_readNumber ∈ TT := tw_283
theorem xk_X4_83 : Cond.methodLink RX4 83 yX4_isFigure ∈ TT := tw_287
theorem xk_X4_31 : Cond.methodLink RX4 31 yX4_readHammock ∈ TT := tw_290
theorem xk_X4_55 : Cond.methodLink RX4 55 yX4_sortOf ∈ TT := tw_294
theorem xk_X4_64 : Cond.methodLink RX4 64 yX4_readTrees ∈ TT := tw_297
theorem xk_X4_68 : Cond.methodLink RX4 68 yX4_readLoad ∈ TT := tw_301
theorem xk_X5_112 : Cond.methodLink RX5 112 yX1_takeFrom ∈ TT := tw_306
theorem xk_X5_116 : Cond.methodLink RX5 116 yX0_forget ∈ TT := tw_311
theorem xk_L_41 : Cond.methodLink RL 41 yX5_fault ∈ TT := tw_315
theorem xk_L_45 : Cond.methodLink RL 45 yX5_minutes ∈ TT := tw_319
theorem xk_X5_131 : Cond.methodLink RX5 131 yX0_keep ∈ TT := tw_324
theorem xk_X5_135 : Cond.methodLink RX5 135 yX1_downBits ∈ TT := tw_328
theorem xk_X1_61 : Cond.methodLink RX1 61 yX1_isDown ∈ TT := tw_332
theorem xk_X1_53 : Cond.methodLink RX1 53 yX1_isCut ∈ TT := tw_336
theorem xk_X1_57 : Cond.methodLink RX1 57 yX1_dip ∈ TT := tw_340
theorem xk_L_49 : Cond.methodLink RL 49 yX5_sling ∈ TT := tw_344
theorem xk_X5_138 : Cond.methodLink RX5 138 yX5_isHammock ∈ TT := tw_348
theorem xk_X5_147 : Cond.methodLink RX5 147 yX1_place ∈ TT := tw_352
theorem xk_X1_65 : Cond.methodLink RX1 65 yX1_offset ∈ TT := tw_356
theorem xk_X1_68 : Cond.methodLink RX1 68 yX1_swung ∈ TT := tw_360
theorem xk_L_53 : Cond.methodLink RL 53 yX5_load ∈ TT := tw_363
theorem xk_X5_154 : Cond.methodLink RX5 154 yX1_dip ∈ TT := tw_367
theorem xk_L_58 : Cond.methodLink RL 58 yX5_cord ∈ TT := tw_368
theorem xk_X5_157 : Cond.methodLink RX5 157 yX1_isCut ∈ TT := tw_372
theorem xk_L_62 : Cond.methodLink RL 62 yX5_undo ∈ TT := tw_373
theorem xk_X5_166 : Cond.methodLink RX5 166 yX0_takeBack ∈ TT := tw_377
theorem xk_L_66 : Cond.methodLink RL 66 yX5_hammock ∈ TT := tw_381
theorem xk_L_70 : Cond.methodLink RL 70 yX5_ahead ∈ TT := tw_385
theorem xk_X5_172 : Cond.methodLink RX5 172 yX5_isAhead ∈ TT := tw_389
theorem xk_L_74 : Cond.methodLink RL 74 yX5_down ∈ TT := tw_392
theorem xk_L_78 : Cond.methodLink RL 78 yX5_reach ∈ TT := tw_396
theorem xk_X5_175 : Cond.methodLink RX5 175 yX1_nearBits ∈ TT := tw_400
theorem xk_X1_80 : Cond.methodLink RX1 80 yX1_spot ∈ TT := tw_404
theorem xk_X1_71 : Cond.methodLink RX1 71 yX1_place ∈ TT := tw_408
theorem xk_X1_83 : Cond.methodLink RX1 83 yX1_areNear ∈ TT := tw_409
theorem xk_X1_74 : Cond.methodLink RX1 74 yJ9_abs_0f7a4 ∈ TT := tw_413
theorem xk_L_82 : Cond.methodLink RL 82 yX5_meet ∈ TT := tw_416
theorem xk_X5_178 : Cond.methodLink RX5 178 yX5_areTwo ∈ TT := tw_420
theorem xk_X5_181 : Cond.methodLink RX5 181 yX1_spot ∈ TT := tw_424
theorem xk_X5_184 : Cond.methodLink RX5 184 yX1_areNear ∈ TT := tw_425
theorem xk_L_86 : Cond.methodLink RL 86 yX5_soonest ∈ TT := tw_427
theorem xk_X5_188 : Cond.methodLink RX5 188 yX2_foresee ∈ TT := tw_431
theorem xk_X2_31 : Cond.methodLink RX2 31 yX1_spot ∈ TT := tw_435
theorem xk_X2_35 : Cond.methodLink RX2 35 yX2_link ∈ TT := tw_436
theorem xk_X2_39 : Cond.methodLink RX2 39 yX1_areNear ∈ TT := tw_440
theorem xk_X5_192 : Cond.methodLink RX5 192 yX2_arrival ∈ TT := tw_441
theorem xk_X2_43 : Cond.methodLink RX2 43 yX2_spread ∈ TT := tw_445
theorem xk_L_90 : Cond.methodLink RL 90 yX5_hands ∈ TT := tw_450
theorem xk_X5_196 : Cond.methodLink RX5 196 yX2_fewestHands ∈ TT := tw_454
theorem xk_L_94 : Cond.methodLink RL 94 yX5_everywhere ∈ TT := tw_458
theorem xk_X5_199 : Cond.methodLink RX5 199 yX2_holders ∈ TT := tw_462
theorem xk_L_98 : Cond.methodLink RL 98 yX5_stops ∈ TT := tw_466
theorem xk_L_102 : Cond.methodLink RL 102 yX5_toSling ∈ TT := tw_470
theorem xk_X5_202 : Cond.methodLink RX5 202 yX2_foreseeAnew ∈ TT := tw_474
theorem xk_L_107 : Cond.methodLink RL 107 yX5_fits ∈ TT := tw_478
theorem xk_X5_206 : Cond.methodLink RX5 206 yX5_fittingKinds ∈ TT := tw_482
theorem xk_X5_254 : Cond.methodLink RX5 254 yX5_wasThere ∈ TT := tw_486
theorem xk_X5_210 : Cond.methodLink RX5 210 yX5_fittingSwings ∈ TT := tw_490
theorem xk_X5_213 : Cond.methodLink RX5 213 yX5_fittingWeights ∈ TT := tw_494
theorem xk_X5_258 : Cond.methodLink RX5 258 yX5_wasReached ∈ TT := tw_498
theorem xk_L_111 : Cond.methodLink RL 111 yX5_breaks ∈ TT := tw_502
theorem xk_X5_216 : Cond.methodLink RX5 216 yX5_partsOf ∈ TT := tw_506
theorem xk_X5_219 : Cond.methodLink RX5 219 yX5_partsOfAll ∈ TT := tw_510
theorem xk_X5_223 : Cond.methodLink RX5 223 yX5_commonDivisor ∈ TT := tw_514
theorem xk_L_115 : Cond.methodLink RL 115 yX5_image ∈ TT := tw_517
theorem xk_L_119 : Cond.methodLink RL 119 yX5_restore ∈ TT := tw_521
theorem xk_L_123 : Cond.methodLink RL 123 yX5_kind ∈ TT := tw_525
theorem xk_L_127 : Cond.methodLink RL 127 yX5_as ∈ TT := tw_529
theorem xk_X5_229 : Cond.methodLink RX5 229 yX5_isOfKind ∈ TT := tw_533
theorem xk_L_131 : Cond.methodLink RL 131 yX5_ask ∈ TT := tw_538
theorem xk_X5_235 : Cond.methodLink RX5 235 yX5_answer ∈ TT := tw_542
theorem xk_X5_270 : Cond.methodLink RX5 270 yX5_nearestBody ∈ TT := tw_546
theorem xk_X5_273 : Cond.methodLink RX5 273 yX5_body ∈ TT := tw_553
theorem xk_L_135 : Cond.methodLink RL 135 yX5_trace ∈ TT := tw_557
theorem xk_L_139 : Cond.methodLink RL 139 yX5_count ∈ TT := tw_561
theorem xk_X5_239 : Cond.methodLink RX5 239 yX5_countRows ∈ TT := tw_565
theorem xk_X5_248 : Cond.methodLink RX5 248 yJ6_bitCount_0f7a4 ∈ TT := tw_569
theorem xk_L_143 : Cond.methodLink RL 143 yX5_status ∈ TT := tw_575
theorem xk_L_12 : Cond.methodLink RL 12 yX6_init ∈ TT := tw_581
theorem xk_L_17 : Cond.methodLink RL 17 yX6_row ∈ TT := tw_656
theorem xk_X6_61 : Cond.methodLink RX6 61 yX6_isRow ∈ TT := tw_660
theorem xk_X6_57 : Cond.methodLink RX6 57 yX6_in ∈ TT := tw_664
theorem xk_X6_68 : Cond.methodLink RX6 68 yX6_found ∈ TT := tw_669
theorem xk_X6_72 : Cond.methodLink RX6 72 yX6_well ∈ TT := tw_674
theorem xk_L_21 : Cond.methodLink RL 21 yX6_set ∈ TT := tw_678
theorem xk_L_26 : Cond.methodLink RL 26 yX6_copy ∈ TT := tw_682
theorem xk_L_31 : Cond.methodLink RL 31 yX6_drop ∈ TT := tw_686
theorem xk_L_35 : Cond.methodLink RL 35 yX6_feed ∈ TT := tw_690
theorem xk_L_40 : Cond.methodLink RL 40 yX6_forest ∈ TT := tw_696
theorem xk_X6_125 : Cond.methodLink RX6 125 yX6_reads ∈ TT := tw_700
theorem xk_X6_108 : Cond.methodLink RX6 108 yX6_step ∈ TT := tw_704
theorem xk_X6_87 : Cond.methodLink RX6 87 yX6_here ∈ TT := tw_708
theorem xk_X6_111 : Cond.methodLink RX6 111 yX6_fails ∈ TT := tw_716
theorem xk_X6_117 : Cond.methodLink RX6 117 yX6_number ∈ TT := tw_720
theorem xk_X6_121 : Cond.methodLink RX6 121 yX6_readsHammock ∈ TT := tw_724
theorem xk_X6_114 : Cond.methodLink RX6 114 yX6_sortOf ∈ TT := tw_728
theorem xk_X6_132 : Cond.methodLink RX6 132 yX6_copies ∈ TT := tw_732
theorem xk_L_44 : Cond.methodLink RL 44 yX6_fault ∈ TT := tw_735
theorem xk_L_48 : Cond.methodLink RL 48 yX6_minutes ∈ TT := tw_739
theorem xk_X6_168 : Cond.methodLink RX6 168 yX6_isForest ∈ TT := tw_743
theorem xk_X6_174 : Cond.methodLink RX6 174 yX6_remember ∈ TT := tw_749
theorem xk_X6_177 : Cond.methodLink RX6 177 yX6_downOf ∈ TT := tw_753
theorem xk_X6_151 : Cond.methodLink RX6 151 yX6_isDown ∈ TT := tw_756
theorem xk_X6_143 : Cond.methodLink RX6 143 yX6_has ∈ TT := tw_759
theorem xk_X6_147 : Cond.methodLink RX6 147 yX6_dip ∈ TT := tw_762
theorem xk_L_52 : Cond.methodLink RL 52 yX6_sling ∈ TT := tw_765
theorem xk_X6_181 : Cond.methodLink RX6 181 yX6_isHammock ∈ TT := tw_769
theorem xk_X6_155 : Cond.methodLink RX6 155 yX6_where ∈ TT := tw_774
theorem xk_X6_139 : Cond.methodLink RX6 139 yX6_swung ∈ TT := tw_777
theorem xk_L_57 : Cond.methodLink RL 57 yX6_load ∈ TT := tw_780
theorem xk_L_61 : Cond.methodLink RL 61 yX6_cord ∈ TT := tw_785
theorem xk_X6_188 : Cond.methodLink RX6 188 yX6_isTwo ∈ TT := tw_789
theorem xk_L_65 : Cond.methodLink RL 65 yX6_undo ∈ TT := tw_792
theorem xk_L_69 : Cond.methodLink RL 69 yX6_hammock ∈ TT := tw_796
theorem xk_L_73 : Cond.methodLink RL 73 yX6_ahead ∈ TT := tw_800
theorem xk_X6_191 : Cond.methodLink RX6 191 yX6_isSpan ∈ TT := tw_804
theorem xk_L_77 : Cond.methodLink RL 77 yX6_down ∈ TT := tw_808
theorem xk_L_81 : Cond.methodLink RL 81 yX6_reach ∈ TT := tw_812
theorem xk_X6_162 : Cond.methodLink RX6 162 yX6_reachOf ∈ TT := tw_816
theorem xk_X6_158 : Cond.methodLink RX6 158 yX6_areNear ∈ TT := tw_819
theorem xk_L_85 : Cond.methodLink RL 85 yX6_meet ∈ TT := tw_822
theorem xk_L_89 : Cond.methodLink RL 89 yX6_soonest ∈ TT := tw_827
theorem xk_X6_195 : Cond.methodLink RX6 195 yX6_soonestOf ∈ TT := tw_831
theorem xk_X6_198 : Cond.methodLink RX6 198 yX6_told ∈ TT := tw_835
theorem xk_L_93 : Cond.methodLink RL 93 yX6_hands ∈ TT := tw_838
theorem xk_L_97 : Cond.methodLink RL 97 yX6_everywhere ∈ TT := tw_842
theorem xk_X6_201 : Cond.methodLink RX6 201 yX6_spread ∈ TT := tw_846
theorem xk_L_101 : Cond.methodLink RL 101 yX6_stops ∈ TT := tw_849
theorem xk_X6_204 : Cond.methodLink RX6 204 yX6_layAside ∈ TT := tw_853
theorem xk_L_106 : Cond.methodLink RL 106 yX6_toSling ∈ TT := tw_857
theorem xk_L_110 : Cond.methodLink RL 110 yX6_fits ∈ TT := tw_861
theorem xk_L_114 : Cond.methodLink RL 114 yX6_breaks ∈ TT := tw_866
theorem xk_L_118 : Cond.methodLink RL 118 yX6_image ∈ TT := tw_871
theorem xk_L_122 : Cond.methodLink RL 122 yX6_restore ∈ TT := tw_875
theorem xk_L_126 : Cond.methodLink RL 126 yX6_kind ∈ TT := tw_879
theorem xk_L_130 : Cond.methodLink RL 130 yX6_as ∈ TT := tw_883
theorem xk_X6_213 : Cond.methodLink RX6 213 yX6_isOf ∈ TT := tw_888
theorem xk_L_134 : Cond.methodLink RL 134 yX6_ask ∈ TT := tw_891
theorem xk_X6_235 : Cond.methodLink RX6 235 yX6_mark ∈ TT := tw_895
theorem xk_X6_227 : Cond.methodLink RX6 227 yX6_leave ∈ TT := tw_902
theorem xk_X6_242 : Cond.methodLink RX6 242 yX6_sizeOf ∈ TT := tw_909
theorem xk_L_138 : Cond.methodLink RL 138 yX6_trace ∈ TT := tw_916
theorem xk_L_142 : Cond.methodLink RL 142 yX6_count ∈ TT := tw_920
theorem xk_L_146 : Cond.methodLink RL 146 yX6_status ∈ TT := tw_924
end
section
theorem dX0_init_0 : decode cX0_init 0 = .ok (.aload_n 0, 1) := by decide +kernel
theorem dX0_init_1 : decode cX0_init 1 = .ok (.invokespecial 3, 3) := by decide +kernel
theorem dX0_init_4 : decode cX0_init 4 = .ok (.aload_n 0, 1) := by decide +kernel
theorem dX0_init_5 : decode cX0_init 5 = .ok (.bipush 24, 2) := by decide +kernel
theorem dX0_init_7 : decode cX0_init 7 = .ok (.newarray .int, 2) := by decide +kernel
theorem dX0_init_9 : decode cX0_init 9 = .ok (.putfield 9, 3) := by decide +kernel
theorem dX0_init_12 : decode cX0_init 12 = .ok (.aload_n 0, 1) := by decide +kernel
theorem dX0_init_13 : decode cX0_init 13 = .ok (.bipush 24, 2) := by decide +kernel
theorem dX0_init_15 : decode cX0_init 15 = .ok (.newarray .int, 2) := by decide +kernel
theorem dX0_init_17 : decode cX0_init 17 = .ok (.putfield 15, 3) := by decide +kernel
theorem dX0_init_20 : decode cX0_init 20 = .ok (.aload_n 0, 1) := by decide +kernel
theorem dX0_init_21 : decode cX0_init 21 = .ok (.bipush 24, 2) := by decide +kernel
theorem dX0_init_23 : decode cX0_init 23 = .ok (.newarray .int, 2) := by decide +kernel
theorem dX0_init_25 : decode cX0_init 25 = .ok (.putfield 18, 3) := by decide +kernel
theorem dX0_init_28 : decode cX0_init 28 = .ok (.aload_n 0, 1) := by decide +kernel
theorem dX0_init_29 : decode cX0_init 29 = .ok (.bipush 24, 2) := by decide +kernel
theorem dX0_init_31 : decode cX0_init 31 = .ok (.newarray .int, 2) := by decide +kernel
theorem dX0_init_33 : decode cX0_init 33 = .ok (.putfield 21, 3) := by decide +kernel
theorem dX0_init_36 : decode cX0_init 36 = .ok (.return_, 1) := by decide +kernel
theorem dX0_forget_0 : decode cX0_forget 0 = .ok (.aload_n 0, 1) := by decide +kernel
theorem dX0_forget_1 : decode cX0_forget 1 = .ok (.iconst 0, 1) := by decide +kernel
theorem dX0_forget_2 : decode cX0_forget 2 = .ok (.putfield 24, 3) := by decide +kernel
theorem dX0_forget_5 : decode cX0_forget 5 = .ok (.return_, 1) := by decide +kernel
theorem dX0_keep_0 : decode cX0_keep 0 = .ok (.aload_n 0, 1) := by decide +kernel
theorem dX0_keep_1 : decode cX0_keep 1 = .ok (.getfield 24, 3) := by decide +kernel
theorem dX0_keep_4 : decode cX0_keep 4 = .ok (.bipush 24, 2) := by decide +kernel
theorem dX0_keep_6 : decode cX0_keep 6 = .ok (.if_icmp .ne 26, 3) := by decide +kernel
theorem dX0_keep_9 : decode cX0_keep 9 = .ok (.aload_n 0, 1) := by decide +kernel
theorem dX0_keep_10 : decode cX0_keep 10 = .ok (.aload_n 0, 1) := by decide +kernel
theorem dX0_keep_11 : decode cX0_keep 11 = .ok (.getfield 28, 3) := by decide +kernel
theorem dX0_keep_14 : decode cX0_keep 14 = .ok (.iconst 1, 1) := by decide +kernel
theorem dX0_keep_15 : decode cX0_keep 15 = .ok (.iadd, 1) := by decide +kernel
theorem dX0_keep_16 : decode cX0_keep 16 = .ok (.bipush 24, 2) := by decide +kernel
theorem dX0_keep_18 : decode cX0_keep 18 = .ok (.irem, 1) := by decide +kernel
theorem dX0_keep_19 : decode cX0_keep 19 = .ok (.putfield 28, 3) := by decide +kernel
theorem dX0_keep_22 : decode cX0_keep 22 = .ok (.aload_n 0, 1) := by decide +kernel
theorem dX0_keep_23 : decode cX0_keep 23 = .ok (.dup, 1) := by decide +kernel
theorem dX0_keep_24 : decode cX0_keep 24 = .ok (.getfield 24, 3) := by decide +kernel
theorem dX0_keep_27 : decode cX0_keep 27 = .ok (.iconst 1, 1) := by decide +kernel
theorem dX0_keep_28 : decode cX0_keep 28 = .ok (.isub, 1) := by decide +kernel
theorem dX0_keep_29 : decode cX0_keep 29 = .ok (.putfield 24, 3) := by decide +kernel
theorem dX0_keep_32 : decode cX0_keep 32 = .ok (.aload_n 0, 1) := by decide +kernel
theorem dX0_keep_33 : decode cX0_keep 33 = .ok (.getfield 28, 3) := by decide +kernel
theorem dX0_keep_36 : decode cX0_keep 36 = .ok (.aload_n 0, 1) := by decide +kernel
theorem dX0_keep_37 : decode cX0_keep 37 = .ok (.getfield 24, 3) := by decide +kernel
theorem dX0_keep_40 : decode cX0_keep 40 = .ok (.iadd, 1) := by decide +kernel
theorem dX0_keep_41 : decode cX0_keep 41 = .ok (.bipush 24, 2) := by decide +kernel
theorem dX0_keep_43 : decode cX0_keep 43 = .ok (.irem, 1) := by decide +kernel
theorem dX0_keep_44 : decode cX0_keep 44 = .ok (.istore 5, 2) := by decide +kernel
theorem dX0_keep_46 : decode cX0_keep 46 = .ok (.aload_n 0, 1) := by decide +kernel
theorem dX0_keep_47 : decode cX0_keep 47 = .ok (.getfield 9, 3) := by decide +kernel
theorem dX0_keep_50 : decode cX0_keep 50 = .ok (.iload 5, 2) := by decide +kernel
theorem dX0_keep_52 : decode cX0_keep 52 = .ok (.iload_n 1, 1) := by decide +kernel
theorem dX0_keep_53 : decode cX0_keep 53 = .ok (.iastore, 1) := by decide +kernel
theorem dX0_keep_54 : decode cX0_keep 54 = .ok (.aload_n 0, 1) := by decide +kernel
theorem dX0_keep_55 : decode cX0_keep 55 = .ok (.getfield 15, 3) := by decide +kernel
theorem dX0_keep_58 : decode cX0_keep 58 = .ok (.iload 5, 2) := by decide +kernel
theorem dX0_keep_60 : decode cX0_keep 60 = .ok (.iload_n 2, 1) := by decide +kernel
theorem dX0_keep_61 : decode cX0_keep 61 = .ok (.iastore, 1) := by decide +kernel
theorem dX0_keep_62 : decode cX0_keep 62 = .ok (.aload_n 0, 1) := by decide +kernel
theorem dX0_keep_63 : decode cX0_keep 63 = .ok (.getfield 18, 3) := by decide +kernel
theorem dX0_keep_66 : decode cX0_keep 66 = .ok (.iload 5, 2) := by decide +kernel
theorem dX0_keep_68 : decode cX0_keep 68 = .ok (.iload_n 3, 1) := by decide +kernel
theorem dX0_keep_69 : decode cX0_keep 69 = .ok (.iastore, 1) := by decide +kernel
theorem dX0_keep_70 : decode cX0_keep 70 = .ok (.aload_n 0, 1) := by decide +kernel
theorem dX0_keep_71 : decode cX0_keep 71 = .ok (.getfield 21, 3) := by decide +kernel
theorem dX0_keep_74 : decode cX0_keep 74 = .ok (.iload 5, 2) := by decide +kernel
theorem dX0_keep_76 : decode cX0_keep 76 = .ok (.iload 4, 2) := by decide +kernel
theorem dX0_keep_78 : decode cX0_keep 78 = .ok (.iastore, 1) := by decide +kernel
theorem dX0_keep_79 : decode cX0_keep 79 = .ok (.aload_n 0, 1) := by decide +kernel
theorem dX0_keep_80 : decode cX0_keep 80 = .ok (.dup, 1) := by decide +kernel
theorem dX0_keep_81 : decode cX0_keep 81 = .ok (.getfield 24, 3) := by decide +kernel
theorem dX0_keep_84 : decode cX0_keep 84 = .ok (.iconst 1, 1) := by decide +kernel
theorem dX0_keep_85 : decode cX0_keep 85 = .ok (.iadd, 1) := by decide +kernel
theorem dX0_keep_86 : decode cX0_keep 86 = .ok (.putfield 24, 3) := by decide +kernel
theorem dX0_keep_89 : decode cX0_keep 89 = .ok (.return_, 1) := by decide +kernel
theorem dX0_takeBack_0 : decode cX0_takeBack 0 = .ok (.aload_n 0, 1) := by decide +kernel
theorem dX0_takeBack_1 : decode cX0_takeBack 1 = .ok (.getfield 24, 3) := by decide +kernel
theorem dX0_takeBack_4 : decode cX0_takeBack 4 = .ok (.ifCond .ne 4, 3) := by decide +kernel
theorem dX0_takeBack_7 : decode cX0_takeBack 7 = .ok (.return_, 1) := by decide +kernel
theorem dX0_takeBack_8 : decode cX0_takeBack 8 = .ok (.aload_n 0, 1) := by decide +kernel
theorem dX0_takeBack_9 : decode cX0_takeBack 9 = .ok (.dup, 1) := by decide +kernel
theorem dX0_takeBack_10 : decode cX0_takeBack 10 = .ok (.getfield 24, 3) := by decide +kernel
theorem dX0_takeBack_13 : decode cX0_takeBack 13 = .ok (.iconst 1, 1) := by decide +kernel
theorem dX0_takeBack_14 : decode cX0_takeBack 14 = .ok (.isub, 1) := by decide +kernel
theorem dX0_takeBack_15 : decode cX0_takeBack 15 = .ok (.putfield 24, 3) := by decide +kernel
theorem dX0_takeBack_18 : decode cX0_takeBack 18 = .ok (.aload_n 0, 1) := by decide +kernel
theorem dX0_takeBack_19 : decode cX0_takeBack 19 = .ok (.getfield 28, 3) := by decide +kernel
theorem dX0_takeBack_22 : decode cX0_takeBack 22 = .ok (.aload_n 0, 1) := by decide +kernel
theorem dX0_takeBack_23 : decode cX0_takeBack 23 = .ok (.getfield 24, 3) := by decide +kernel
theorem dX0_takeBack_26 : decode cX0_takeBack 26 = .ok (.iadd, 1) := by decide +kernel
theorem dX0_takeBack_27 : decode cX0_takeBack 27 = .ok (.bipush 24, 2) := by decide +kernel
theorem dX0_takeBack_29 : decode cX0_takeBack 29 = .ok (.irem, 1) := by decide +kernel
theorem dX0_takeBack_30 : decode cX0_takeBack 30 = .ok (.istore_n 2, 1) := by decide +kernel
theorem dX0_takeBack_31 : decode cX0_takeBack 31 = .ok (.aload_n 0, 1) := by decide +kernel
theorem dX0_takeBack_32 : decode cX0_takeBack 32 = .ok (.getfield 15, 3) := by decide +kernel
theorem dX0_takeBack_35 : decode cX0_takeBack 35 = .ok (.iload_n 2, 1) := by decide +kernel
theorem dX0_takeBack_36 : decode cX0_takeBack 36 = .ok (.iaload, 1) := by decide +kernel
theorem dX0_takeBack_37 : decode cX0_takeBack 37 = .ok (.istore_n 3, 1) := by decide +kernel
theorem dX0_takeBack_38 : decode cX0_takeBack 38 = .ok (.aload_n 0, 1) := by decide +kernel
theorem dX0_takeBack_39 : decode cX0_takeBack 39 = .ok (.getfield 9, 3) := by decide +kernel
theorem dX0_takeBack_42 : decode cX0_takeBack 42 = .ok (.iload_n 2, 1) := by decide +kernel
theorem dX0_takeBack_43 : decode cX0_takeBack 43 = .ok (.iaload, 1) := by decide +kernel
theorem dX0_takeBack_44 : decode cX0_takeBack 44 = .ok (.tableswitch 85 1 3 #[28, 55, 70], 28) := by decide +kernel
theorem dX0_takeBack_72 : decode cX0_takeBack 72 = .ok (.aload_n 1, 1) := by decide +kernel
theorem dX0_takeBack_73 : decode cX0_takeBack 73 = .ok (.getfield 31, 3) := by decide +kernel
theorem dX0_takeBack_76 : decode cX0_takeBack 76 = .ok (.iload_n 3, 1) := by decide +kernel
theorem dX0_takeBack_77 : decode cX0_takeBack 77 = .ok (.aload_n 0, 1) := by decide +kernel
theorem dX0_takeBack_78 : decode cX0_takeBack 78 = .ok (.getfield 18, 3) := by decide +kernel
theorem dX0_takeBack_81 : decode cX0_takeBack 81 = .ok (.iload_n 2, 1) := by decide +kernel
theorem dX0_takeBack_82 : decode cX0_takeBack 82 = .ok (.iaload, 1) := by decide +kernel
theorem dX0_takeBack_83 : decode cX0_takeBack 83 = .ok (.iastore, 1) := by decide +kernel
theorem dX0_takeBack_84 : decode cX0_takeBack 84 = .ok (.aload_n 1, 1) := by decide +kernel
theorem dX0_takeBack_85 : decode cX0_takeBack 85 = .ok (.getfield 36, 3) := by decide +kernel
theorem dX0_takeBack_88 : decode cX0_takeBack 88 = .ok (.iload_n 3, 1) := by decide +kernel
theorem dX0_takeBack_89 : decode cX0_takeBack 89 = .ok (.aload_n 0, 1) := by decide +kernel
theorem dX0_takeBack_90 : decode cX0_takeBack 90 = .ok (.getfield 21, 3) := by decide +kernel
theorem dX0_takeBack_93 : decode cX0_takeBack 93 = .ok (.iload_n 2, 1) := by decide +kernel
theorem dX0_takeBack_94 : decode cX0_takeBack 94 = .ok (.iaload, 1) := by decide +kernel
theorem dX0_takeBack_95 : decode cX0_takeBack 95 = .ok (.iastore, 1) := by decide +kernel
theorem dX0_takeBack_96 : decode cX0_takeBack 96 = .ok (.goto 43, 3) := by decide +kernel
theorem dX0_takeBack_99 : decode cX0_takeBack 99 = .ok (.aload_n 1, 1) := by decide +kernel
theorem dX0_takeBack_100 : decode cX0_takeBack 100 = .ok (.getfield 39, 3) := by decide +kernel
theorem dX0_takeBack_103 : decode cX0_takeBack 103 = .ok (.iload_n 3, 1) := by decide +kernel
theorem dX0_takeBack_104 : decode cX0_takeBack 104 = .ok (.aload_n 0, 1) := by decide +kernel
theorem dX0_takeBack_105 : decode cX0_takeBack 105 = .ok (.getfield 18, 3) := by decide +kernel
theorem dX0_takeBack_108 : decode cX0_takeBack 108 = .ok (.iload_n 2, 1) := by decide +kernel
theorem dX0_takeBack_109 : decode cX0_takeBack 109 = .ok (.iaload, 1) := by decide +kernel
theorem dX0_takeBack_110 : decode cX0_takeBack 110 = .ok (.iastore, 1) := by decide +kernel
theorem dX0_takeBack_111 : decode cX0_takeBack 111 = .ok (.goto 28, 3) := by decide +kernel
theorem dX0_takeBack_114 : decode cX0_takeBack 114 = .ok (.aload_n 1, 1) := by decide +kernel
theorem dX0_takeBack_115 : decode cX0_takeBack 115 = .ok (.dup, 1) := by decide +kernel
theorem dX0_takeBack_116 : decode cX0_takeBack 116 = .ok (.getfield 42, 3) := by decide +kernel
theorem dX0_takeBack_119 : decode cX0_takeBack 119 = .ok (.iconst 1, 1) := by decide +kernel
theorem dX0_takeBack_120 : decode cX0_takeBack 120 = .ok (.iload_n 3, 1) := by decide +kernel
theorem dX0_takeBack_121 : decode cX0_takeBack 121 = .ok (.ishl, 1) := by decide +kernel
theorem dX0_takeBack_122 : decode cX0_takeBack 122 = .ok (.ixor, 1) := by decide +kernel
theorem dX0_takeBack_123 : decode cX0_takeBack 123 = .ok (.putfield 42, 3) := by decide +kernel
theorem dX0_takeBack_126 : decode cX0_takeBack 126 = .ok (.goto 13, 3) := by decide +kernel
theorem dX0_takeBack_129 : decode cX0_takeBack 129 = .ok (.aload_n 1, 1) := by decide +kernel
theorem dX0_takeBack_130 : decode cX0_takeBack 130 = .ok (.dup, 1) := by decide +kernel
theorem dX0_takeBack_131 : decode cX0_takeBack 131 = .ok (.getfield 45, 3) := by decide +kernel
theorem dX0_takeBack_134 : decode cX0_takeBack 134 = .ok (.iconst 1, 1) := by decide +kernel
theorem dX0_takeBack_135 : decode cX0_takeBack 135 = .ok (.isub, 1) := by decide +kernel
theorem dX0_takeBack_136 : decode cX0_takeBack 136 = .ok (.putfield 45, 3) := by decide +kernel
theorem dX0_takeBack_139 : decode cX0_takeBack 139 = .ok (.return_, 1) := by decide +kernel
theorem dX1_init_0 : decode cX1_init 0 = .ok (.aload_n 0, 1) := by decide +kernel
theorem dX1_init_1 : decode cX1_init 1 = .ok (.invokespecial 3, 3) := by decide +kernel
theorem dX1_init_4 : decode cX1_init 4 = .ok (.aload_n 0, 1) := by decide +kernel
theorem dX1_init_5 : decode cX1_init 5 = .ok (.bipush 6, 2) := by decide +kernel
theorem dX1_init_7 : decode cX1_init 7 = .ok (.newarray .int, 2) := by decide +kernel
theorem dX1_init_9 : decode cX1_init 9 = .ok (.putfield 9, 3) := by decide +kernel
theorem dX1_init_12 : decode cX1_init 12 = .ok (.aload_n 0, 1) := by decide +kernel
theorem dX1_init_13 : decode cX1_init 13 = .ok (.bipush 6, 2) := by decide +kernel
theorem dX1_init_15 : decode cX1_init 15 = .ok (.newarray .int, 2) := by decide +kernel
theorem dX1_init_17 : decode cX1_init 17 = .ok (.putfield 15, 3) := by decide +kernel
theorem dX1_init_20 : decode cX1_init 20 = .ok (.aload_n 0, 1) := by decide +kernel
theorem dX1_init_21 : decode cX1_init 21 = .ok (.bipush 6, 2) := by decide +kernel
theorem dX1_init_23 : decode cX1_init 23 = .ok (.newarray .int, 2) := by decide +kernel
theorem dX1_init_25 : decode cX1_init 25 = .ok (.putfield 18, 3) := by decide +kernel
theorem dX1_init_28 : decode cX1_init 28 = .ok (.aload_n 0, 1) := by decide +kernel
theorem dX1_init_29 : decode cX1_init 29 = .ok (.bipush 6, 2) := by decide +kernel
theorem dX1_init_31 : decode cX1_init 31 = .ok (.newarray .int, 2) := by decide +kernel
theorem dX1_init_33 : decode cX1_init 33 = .ok (.putfield 21, 3) := by decide +kernel
theorem dX1_init_36 : decode cX1_init 36 = .ok (.aload_n 0, 1) := by decide +kernel
theorem dX1_init_37 : decode cX1_init 37 = .ok (.bipush 6, 2) := by decide +kernel
theorem dX1_init_39 : decode cX1_init 39 = .ok (.newarray .int, 2) := by decide +kernel
theorem dX1_init_41 : decode cX1_init 41 = .ok (.putfield 24, 3) := by decide +kernel
theorem dX1_init_44 : decode cX1_init 44 = .ok (.return_, 1) := by decide +kernel
theorem dX1_begin_0 : decode cX1_begin 0 = .ok (.aload_n 0, 1) := by decide +kernel
theorem dX1_begin_1 : decode cX1_begin 1 = .ok (.iconst 1, 1) := by decide +kernel
theorem dX1_begin_2 : decode cX1_begin 2 = .ok (.putfield 27, 3) := by decide +kernel
theorem dX1_begin_5 : decode cX1_begin 5 = .ok (.aload_n 0, 1) := by decide +kernel
theorem dX1_begin_6 : decode cX1_begin 6 = .ok (.iconst 0, 1) := by decide +kernel
theorem dX1_begin_7 : decode cX1_begin 7 = .ok (.putfield 31, 3) := by decide +kernel
theorem dX1_begin_10 : decode cX1_begin 10 = .ok (.aload_n 0, 1) := by decide +kernel
theorem dX1_begin_11 : decode cX1_begin 11 = .ok (.iconst 0, 1) := by decide +kernel
theorem dX1_begin_12 : decode cX1_begin 12 = .ok (.putfield 35, 3) := by decide +kernel
theorem dX1_begin_15 : decode cX1_begin 15 = .ok (.aload_n 0, 1) := by decide +kernel
theorem dX1_begin_16 : decode cX1_begin 16 = .ok (.iconst 0, 1) := by decide +kernel
theorem dX1_begin_17 : decode cX1_begin 17 = .ok (.putfield 38, 3) := by decide +kernel
theorem dX1_begin_20 : decode cX1_begin 20 = .ok (.return_, 1) := by decide +kernel
theorem dX1_takeFrom_0 : decode cX1_takeFrom 0 = .ok (.aload_n 1, 1) := by decide +kernel
theorem dX1_takeFrom_1 : decode cX1_takeFrom 1 = .ok (.getfield 9, 3) := by decide +kernel
theorem dX1_takeFrom_4 : decode cX1_takeFrom 4 = .ok (.iconst 0, 1) := by decide +kernel
theorem dX1_takeFrom_5 : decode cX1_takeFrom 5 = .ok (.aload_n 0, 1) := by decide +kernel
theorem dX1_takeFrom_6 : decode cX1_takeFrom 6 = .ok (.getfield 9, 3) := by decide +kernel
theorem dX1_takeFrom_9 : decode cX1_takeFrom 9 = .ok (.iconst 0, 1) := by decide +kernel
theorem dX1_takeFrom_10 : decode cX1_takeFrom 10 = .ok (.bipush 6, 2) := by decide +kernel
theorem dX1_takeFrom_12 : decode cX1_takeFrom 12 = .ok (.invokestatic 41, 3) := by decide +kernel
theorem dX1_takeFrom_15 : decode cX1_takeFrom 15 = .ok (.aload_n 1, 1) := by decide +kernel
theorem dX1_takeFrom_16 : decode cX1_takeFrom 16 = .ok (.getfield 15, 3) := by decide +kernel
theorem dX1_takeFrom_19 : decode cX1_takeFrom 19 = .ok (.iconst 0, 1) := by decide +kernel
theorem dX1_takeFrom_20 : decode cX1_takeFrom 20 = .ok (.aload_n 0, 1) := by decide +kernel
theorem dX1_takeFrom_21 : decode cX1_takeFrom 21 = .ok (.getfield 15, 3) := by decide +kernel
theorem dX1_takeFrom_24 : decode cX1_takeFrom 24 = .ok (.iconst 0, 1) := by decide +kernel
theorem dX1_takeFrom_25 : decode cX1_takeFrom 25 = .ok (.bipush 6, 2) := by decide +kernel
theorem dX1_takeFrom_27 : decode cX1_takeFrom 27 = .ok (.invokestatic 41, 3) := by decide +kernel
theorem dX1_takeFrom_30 : decode cX1_takeFrom 30 = .ok (.aload_n 1, 1) := by decide +kernel
theorem dX1_takeFrom_31 : decode cX1_takeFrom 31 = .ok (.getfield 18, 3) := by decide +kernel
theorem dX1_takeFrom_34 : decode cX1_takeFrom 34 = .ok (.iconst 0, 1) := by decide +kernel
theorem dX1_takeFrom_35 : decode cX1_takeFrom 35 = .ok (.aload_n 0, 1) := by decide +kernel
theorem dX1_takeFrom_36 : decode cX1_takeFrom 36 = .ok (.getfield 18, 3) := by decide +kernel
theorem dX1_takeFrom_39 : decode cX1_takeFrom 39 = .ok (.iconst 0, 1) := by decide +kernel
theorem dX1_takeFrom_40 : decode cX1_takeFrom 40 = .ok (.bipush 6, 2) := by decide +kernel
theorem dX1_takeFrom_42 : decode cX1_takeFrom 42 = .ok (.invokestatic 41, 3) := by decide +kernel
theorem dX1_takeFrom_45 : decode cX1_takeFrom 45 = .ok (.aload_n 1, 1) := by decide +kernel
theorem dX1_takeFrom_46 : decode cX1_takeFrom 46 = .ok (.getfield 21, 3) := by decide +kernel
theorem dX1_takeFrom_49 : decode cX1_takeFrom 49 = .ok (.iconst 0, 1) := by decide +kernel
theorem dX1_takeFrom_50 : decode cX1_takeFrom 50 = .ok (.aload_n 0, 1) := by decide +kernel
theorem dX1_takeFrom_51 : decode cX1_takeFrom 51 = .ok (.getfield 21, 3) := by decide +kernel
theorem dX1_takeFrom_54 : decode cX1_takeFrom 54 = .ok (.iconst 0, 1) := by decide +kernel
theorem dX1_takeFrom_55 : decode cX1_takeFrom 55 = .ok (.bipush 6, 2) := by decide +kernel
theorem dX1_takeFrom_57 : decode cX1_takeFrom 57 = .ok (.invokestatic 41, 3) := by decide +kernel
theorem dX1_takeFrom_60 : decode cX1_takeFrom 60 = .ok (.aload_n 1, 1) := by decide +kernel
theorem dX1_takeFrom_61 : decode cX1_takeFrom 61 = .ok (.getfield 24, 3) := by decide +kernel
theorem dX1_takeFrom_64 : decode cX1_takeFrom 64 = .ok (.iconst 0, 1) := by decide +kernel
theorem dX1_takeFrom_65 : decode cX1_takeFrom 65 = .ok (.aload_n 0, 1) := by decide +kernel
theorem dX1_takeFrom_66 : decode cX1_takeFrom 66 = .ok (.getfield 24, 3) := by decide +kernel
theorem dX1_takeFrom_69 : decode cX1_takeFrom 69 = .ok (.iconst 0, 1) := by decide +kernel
theorem dX1_takeFrom_70 : decode cX1_takeFrom 70 = .ok (.bipush 6, 2) := by decide +kernel
theorem dX1_takeFrom_72 : decode cX1_takeFrom 72 = .ok (.invokestatic 41, 3) := by decide +kernel
theorem dX1_takeFrom_75 : decode cX1_takeFrom 75 = .ok (.aload_n 0, 1) := by decide +kernel
theorem dX1_takeFrom_76 : decode cX1_takeFrom 76 = .ok (.aload_n 1, 1) := by decide +kernel
theorem dX1_takeFrom_77 : decode cX1_takeFrom 77 = .ok (.getfield 27, 3) := by decide +kernel
theorem dX1_takeFrom_80 : decode cX1_takeFrom 80 = .ok (.putfield 27, 3) := by decide +kernel
theorem dX1_takeFrom_83 : decode cX1_takeFrom 83 = .ok (.aload_n 0, 1) := by decide +kernel
theorem dX1_takeFrom_84 : decode cX1_takeFrom 84 = .ok (.aload_n 1, 1) := by decide +kernel
theorem dX1_takeFrom_85 : decode cX1_takeFrom 85 = .ok (.getfield 47, 3) := by decide +kernel
theorem dX1_takeFrom_88 : decode cX1_takeFrom 88 = .ok (.putfield 47, 3) := by decide +kernel
theorem dX1_takeFrom_91 : decode cX1_takeFrom 91 = .ok (.aload_n 0, 1) := by decide +kernel
theorem dX1_takeFrom_92 : decode cX1_takeFrom 92 = .ok (.aload_n 1, 1) := by decide +kernel
theorem dX1_takeFrom_93 : decode cX1_takeFrom 93 = .ok (.getfield 50, 3) := by decide +kernel
theorem dX1_takeFrom_96 : decode cX1_takeFrom 96 = .ok (.putfield 50, 3) := by decide +kernel
theorem dX1_takeFrom_99 : decode cX1_takeFrom 99 = .ok (.aload_n 0, 1) := by decide +kernel
theorem dX1_takeFrom_100 : decode cX1_takeFrom 100 = .ok (.aload_n 1, 1) := by decide +kernel
theorem dX1_takeFrom_101 : decode cX1_takeFrom 101 = .ok (.getfield 31, 3) := by decide +kernel
theorem dX1_takeFrom_104 : decode cX1_takeFrom 104 = .ok (.putfield 31, 3) := by decide +kernel
theorem dX1_takeFrom_107 : decode cX1_takeFrom 107 = .ok (.aload_n 0, 1) := by decide +kernel
theorem dX1_takeFrom_108 : decode cX1_takeFrom 108 = .ok (.aload_n 1, 1) := by decide +kernel
theorem dX1_takeFrom_109 : decode cX1_takeFrom 109 = .ok (.getfield 35, 3) := by decide +kernel
theorem dX1_takeFrom_112 : decode cX1_takeFrom 112 = .ok (.putfield 35, 3) := by decide +kernel
theorem dX1_takeFrom_115 : decode cX1_takeFrom 115 = .ok (.aload_n 0, 1) := by decide +kernel
theorem dX1_takeFrom_116 : decode cX1_takeFrom 116 = .ok (.aload_n 1, 1) := by decide +kernel
theorem dX1_takeFrom_117 : decode cX1_takeFrom 117 = .ok (.getfield 38, 3) := by decide +kernel
theorem dX1_takeFrom_120 : decode cX1_takeFrom 120 = .ok (.putfield 38, 3) := by decide +kernel
theorem dX1_takeFrom_123 : decode cX1_takeFrom 123 = .ok (.return_, 1) := by decide +kernel
theorem dX1_isCut_0 : decode cX1_isCut 0 = .ok (.aload_n 0, 1) := by decide +kernel
theorem dX1_isCut_1 : decode cX1_isCut 1 = .ok (.getfield 38, 3) := by decide +kernel
theorem dX1_isCut_4 : decode cX1_isCut 4 = .ok (.iload_n 1, 1) := by decide +kernel
theorem dX1_isCut_5 : decode cX1_isCut 5 = .ok (.ishr, 1) := by decide +kernel
theorem dX1_isCut_6 : decode cX1_isCut 6 = .ok (.iconst 1, 1) := by decide +kernel
theorem dX1_isCut_7 : decode cX1_isCut 7 = .ok (.iand, 1) := by decide +kernel
theorem dX1_isCut_8 : decode cX1_isCut 8 = .ok (.iconst 1, 1) := by decide +kernel
theorem dX1_isCut_9 : decode cX1_isCut 9 = .ok (.if_icmp .ne 7, 3) := by decide +kernel
theorem dX1_isCut_12 : decode cX1_isCut 12 = .ok (.iconst 1, 1) := by decide +kernel
theorem dX1_isCut_13 : decode cX1_isCut 13 = .ok (.goto 4, 3) := by decide +kernel
theorem dX1_isCut_16 : decode cX1_isCut 16 = .ok (.iconst 0, 1) := by decide +kernel
theorem dX1_isCut_17 : decode cX1_isCut 17 = .ok (.ireturn, 1) := by decide +kernel
theorem dX1_dip_0 : decode cX1_dip 0 = .ok (.aload_n 0, 1) := by decide +kernel
theorem dX1_dip_1 : decode cX1_dip 1 = .ok (.getfield 18, 3) := by decide +kernel
theorem dX1_dip_4 : decode cX1_dip 4 = .ok (.iload_n 1, 1) := by decide +kernel
theorem dX1_dip_5 : decode cX1_dip 5 = .ok (.iaload, 1) := by decide +kernel
theorem dX1_dip_6 : decode cX1_dip 6 = .ok (.aload_n 0, 1) := by decide +kernel
theorem dX1_dip_7 : decode cX1_dip 7 = .ok (.getfield 15, 3) := by decide +kernel
theorem dX1_dip_10 : decode cX1_dip 10 = .ok (.iload_n 1, 1) := by decide +kernel
theorem dX1_dip_11 : decode cX1_dip 11 = .ok (.iaload, 1) := by decide +kernel
theorem dX1_dip_12 : decode cX1_dip 12 = .ok (.isub, 1) := by decide +kernel
theorem dX1_dip_13 : decode cX1_dip 13 = .ok (.istore_n 3, 1) := by decide +kernel
theorem dX1_dip_14 : decode cX1_dip 14 = .ok (.aload_n 0, 1) := by decide +kernel
theorem dX1_dip_15 : decode cX1_dip 15 = .ok (.getfield 21, 3) := by decide +kernel
theorem dX1_dip_18 : decode cX1_dip 18 = .ok (.iload_n 1, 1) := by decide +kernel
theorem dX1_dip_19 : decode cX1_dip 19 = .ok (.iaload, 1) := by decide +kernel
theorem dX1_dip_20 : decode cX1_dip 20 = .ok (.iload_n 3, 1) := by decide +kernel
theorem dX1_dip_21 : decode cX1_dip 21 = .ok (.iconst 2, 1) := by decide +kernel
theorem dX1_dip_22 : decode cX1_dip 22 = .ok (.idiv, 1) := by decide +kernel
theorem dX1_dip_23 : decode cX1_dip 23 = .ok (.iadd, 1) := by decide +kernel
theorem dX1_dip_24 : decode cX1_dip 24 = .ok (.istore 4, 2) := by decide +kernel
theorem dX1_dip_26 : decode cX1_dip 26 = .ok (.aload_n 0, 1) := by decide +kernel
theorem dX1_dip_27 : decode cX1_dip 27 = .ok (.getfield 9, 3) := by decide +kernel
theorem dX1_dip_30 : decode cX1_dip 30 = .ok (.iload_n 1, 1) := by decide +kernel
theorem dX1_dip_31 : decode cX1_dip 31 = .ok (.iaload, 1) := by decide +kernel
theorem dX1_dip_32 : decode cX1_dip 32 = .ok (.tableswitch 49 2 5 #[32, 37, 45, 47], 32) := by decide +kernel
theorem dX1_dip_64 : decode cX1_dip 64 = .ok (.iload 4, 2) := by decide +kernel
theorem dX1_dip_66 : decode cX1_dip 66 = .ok (.iconst 2, 1) := by decide +kernel
theorem dX1_dip_67 : decode cX1_dip 67 = .ok (.idiv, 1) := by decide +kernel
theorem dX1_dip_68 : decode cX1_dip 68 = .ok (.ireturn, 1) := by decide +kernel
theorem dX1_dip_69 : decode cX1_dip 69 = .ok (.iload 4, 2) := by decide +kernel
theorem dX1_dip_71 : decode cX1_dip 71 = .ok (.iload_n 2, 1) := by decide +kernel
theorem dX1_dip_72 : decode cX1_dip 72 = .ok (.bipush 10, 2) := by decide +kernel
theorem dX1_dip_74 : decode cX1_dip 74 = .ok (.idiv, 1) := by decide +kernel
theorem dX1_dip_75 : decode cX1_dip 75 = .ok (.iadd, 1) := by decide +kernel
theorem dX1_dip_76 : decode cX1_dip 76 = .ok (.ireturn, 1) := by decide +kernel
theorem dX1_dip_77 : decode cX1_dip 77 = .ok (.iload_n 3, 1) := by decide +kernel
theorem dX1_dip_78 : decode cX1_dip 78 = .ok (.ireturn, 1) := by decide +kernel
theorem dX1_dip_79 : decode cX1_dip 79 = .ok (.iconst 0, 1) := by decide +kernel
theorem dX1_dip_80 : decode cX1_dip 80 = .ok (.ireturn, 1) := by decide +kernel
theorem dX1_dip_81 : decode cX1_dip 81 = .ok (.iload 4, 2) := by decide +kernel
theorem dX1_dip_83 : decode cX1_dip 83 = .ok (.ireturn, 1) := by decide +kernel
theorem dX1_isDown_0 : decode cX1_isDown 0 = .ok (.aload_n 0, 1) := by decide +kernel
theorem dX1_isDown_1 : decode cX1_isDown 1 = .ok (.iload_n 1, 1) := by decide +kernel
theorem dX1_isDown_2 : decode cX1_isDown 2 = .ok (.invokevirtual 53, 3) := by decide +kernel
theorem dX1_isDown_5 : decode cX1_isDown 5 = .ok (.ifCond .ne 16, 3) := by decide +kernel
theorem dX1_isDown_8 : decode cX1_isDown 8 = .ok (.aload_n 0, 1) := by decide +kernel
theorem dX1_isDown_9 : decode cX1_isDown 9 = .ok (.iload_n 1, 1) := by decide +kernel
theorem dX1_isDown_10 : decode cX1_isDown 10 = .ok (.iload_n 2, 1) := by decide +kernel
theorem dX1_isDown_11 : decode cX1_isDown 11 = .ok (.invokevirtual 57, 3) := by decide +kernel
theorem dX1_isDown_14 : decode cX1_isDown 14 = .ok (.aload_n 0, 1) := by decide +kernel
theorem dX1_isDown_15 : decode cX1_isDown 15 = .ok (.getfield 47, 3) := by decide +kernel
theorem dX1_isDown_18 : decode cX1_isDown 18 = .ok (.if_icmp .le 7, 3) := by decide +kernel
theorem dX1_isDown_21 : decode cX1_isDown 21 = .ok (.iconst 1, 1) := by decide +kernel
theorem dX1_isDown_22 : decode cX1_isDown 22 = .ok (.goto 4, 3) := by decide +kernel
theorem dX1_isDown_25 : decode cX1_isDown 25 = .ok (.iconst 0, 1) := by decide +kernel
theorem dX1_isDown_26 : decode cX1_isDown 26 = .ok (.ireturn, 1) := by decide +kernel
theorem dX1_downBits_0 : decode cX1_downBits 0 = .ok (.iconst 0, 1) := by decide +kernel
theorem dX1_downBits_1 : decode cX1_downBits 1 = .ok (.istore_n 2, 1) := by decide +kernel
theorem dX1_downBits_2 : decode cX1_downBits 2 = .ok (.iconst 0, 1) := by decide +kernel
theorem dX1_downBits_3 : decode cX1_downBits 3 = .ok (.istore_n 3, 1) := by decide +kernel
theorem dX1_downBits_4 : decode cX1_downBits 4 = .ok (.iload_n 3, 1) := by decide +kernel
theorem dX1_downBits_5 : decode cX1_downBits 5 = .ok (.aload_n 0, 1) := by decide +kernel
theorem dX1_downBits_6 : decode cX1_downBits 6 = .ok (.getfield 35, 3) := by decide +kernel
theorem dX1_downBits_9 : decode cX1_downBits 9 = .ok (.if_icmp .ge 24, 3) := by decide +kernel
theorem dX1_downBits_12 : decode cX1_downBits 12 = .ok (.aload_n 0, 1) := by decide +kernel
theorem dX1_downBits_13 : decode cX1_downBits 13 = .ok (.iload_n 3, 1) := by decide +kernel
theorem dX1_downBits_14 : decode cX1_downBits 14 = .ok (.iload_n 1, 1) := by decide +kernel
theorem dX1_downBits_15 : decode cX1_downBits 15 = .ok (.invokevirtual 61, 3) := by decide +kernel
theorem dX1_downBits_18 : decode cX1_downBits 18 = .ok (.ifCond .eq 9, 3) := by decide +kernel
theorem dX1_downBits_21 : decode cX1_downBits 21 = .ok (.iload_n 2, 1) := by decide +kernel
theorem dX1_downBits_22 : decode cX1_downBits 22 = .ok (.iconst 1, 1) := by decide +kernel
theorem dX1_downBits_23 : decode cX1_downBits 23 = .ok (.iload_n 3, 1) := by decide +kernel
theorem dX1_downBits_24 : decode cX1_downBits 24 = .ok (.ishl, 1) := by decide +kernel
theorem dX1_downBits_25 : decode cX1_downBits 25 = .ok (.ior, 1) := by decide +kernel
theorem dX1_downBits_26 : decode cX1_downBits 26 = .ok (.istore_n 2, 1) := by decide +kernel
theorem dX1_downBits_27 : decode cX1_downBits 27 = .ok (.iinc 3 1, 3) := by decide +kernel
theorem dX1_downBits_30 : decode cX1_downBits 30 = .ok (.goto (-26), 3) := by decide +kernel
theorem dX1_downBits_33 : decode cX1_downBits 33 = .ok (.iload_n 2, 1) := by decide +kernel
theorem dX1_downBits_34 : decode cX1_downBits 34 = .ok (.ireturn, 1) := by decide +kernel
theorem dX1_place_0 : decode cX1_place 0 = .ok (.aload_n 0, 1) := by decide +kernel
theorem dX1_place_1 : decode cX1_place 1 = .ok (.getfield 15, 3) := by decide +kernel
theorem dX1_place_4 : decode cX1_place 4 = .ok (.iload_n 1, 1) := by decide +kernel
theorem dX1_place_5 : decode cX1_place 5 = .ok (.iaload, 1) := by decide +kernel
theorem dX1_place_6 : decode cX1_place 6 = .ok (.aload_n 0, 1) := by decide +kernel
theorem dX1_place_7 : decode cX1_place 7 = .ok (.getfield 18, 3) := by decide +kernel
theorem dX1_place_10 : decode cX1_place 10 = .ok (.iload_n 1, 1) := by decide +kernel
theorem dX1_place_11 : decode cX1_place 11 = .ok (.iaload, 1) := by decide +kernel
theorem dX1_place_12 : decode cX1_place 12 = .ok (.iadd, 1) := by decide +kernel
theorem dX1_place_13 : decode cX1_place 13 = .ok (.iconst 2, 1) := by decide +kernel
theorem dX1_place_14 : decode cX1_place 14 = .ok (.aload_n 0, 1) := by decide +kernel
theorem dX1_place_15 : decode cX1_place 15 = .ok (.iload_n 1, 1) := by decide +kernel
theorem dX1_place_16 : decode cX1_place 16 = .ok (.iload_n 2, 1) := by decide +kernel
theorem dX1_place_17 : decode cX1_place 17 = .ok (.invokevirtual 65, 3) := by decide +kernel
theorem dX1_place_20 : decode cX1_place 20 = .ok (.imul, 1) := by decide +kernel
theorem dX1_place_21 : decode cX1_place 21 = .ok (.iadd, 1) := by decide +kernel
theorem dX1_place_22 : decode cX1_place 22 = .ok (.ireturn, 1) := by decide +kernel
theorem dX1_offset_0 : decode cX1_offset 0 = .ok (.aload_n 0, 1) := by decide +kernel
theorem dX1_offset_1 : decode cX1_offset 1 = .ok (.getfield 9, 3) := by decide +kernel
theorem dX1_offset_4 : decode cX1_offset 4 = .ok (.iload_n 1, 1) := by decide +kernel
theorem dX1_offset_5 : decode cX1_offset 5 = .ok (.iaload, 1) := by decide +kernel
theorem dX1_offset_6 : decode cX1_offset 6 = .ok (.tableswitch 48 3 5 #[26, 39, 41], 26) := by decide +kernel
theorem dX1_offset_32 : decode cX1_offset 32 = .ok (.aload_n 0, 1) := by decide +kernel
theorem dX1_offset_33 : decode cX1_offset 33 = .ok (.getfield 24, 3) := by decide +kernel
theorem dX1_offset_36 : decode cX1_offset 36 = .ok (.iload_n 1, 1) := by decide +kernel
theorem dX1_offset_37 : decode cX1_offset 37 = .ok (.iaload, 1) := by decide +kernel
theorem dX1_offset_38 : decode cX1_offset 38 = .ok (.iload_n 2, 1) := by decide +kernel
theorem dX1_offset_39 : decode cX1_offset 39 = .ok (.iconst 2, 1) := by decide +kernel
theorem dX1_offset_40 : decode cX1_offset 40 = .ok (.idiv, 1) := by decide +kernel
theorem dX1_offset_41 : decode cX1_offset 41 = .ok (.invokestatic 68, 3) := by decide +kernel
theorem dX1_offset_44 : decode cX1_offset 44 = .ok (.ireturn, 1) := by decide +kernel
theorem dX1_offset_45 : decode cX1_offset 45 = .ok (.iconst 0, 1) := by decide +kernel
theorem dX1_offset_46 : decode cX1_offset 46 = .ok (.ireturn, 1) := by decide +kernel
theorem dX1_offset_47 : decode cX1_offset 47 = .ok (.aload_n 0, 1) := by decide +kernel
theorem dX1_offset_48 : decode cX1_offset 48 = .ok (.getfield 24, 3) := by decide +kernel
theorem dX1_offset_51 : decode cX1_offset 51 = .ok (.iload_n 1, 1) := by decide +kernel
theorem dX1_offset_52 : decode cX1_offset 52 = .ok (.iaload, 1) := by decide +kernel
theorem dX1_offset_53 : decode cX1_offset 53 = .ok (.ireturn, 1) := by decide +kernel
theorem dX1_offset_54 : decode cX1_offset 54 = .ok (.aload_n 0, 1) := by decide +kernel
theorem dX1_offset_55 : decode cX1_offset 55 = .ok (.getfield 24, 3) := by decide +kernel
theorem dX1_offset_58 : decode cX1_offset 58 = .ok (.iload_n 1, 1) := by decide +kernel
theorem dX1_offset_59 : decode cX1_offset 59 = .ok (.iaload, 1) := by decide +kernel
theorem dX1_offset_60 : decode cX1_offset 60 = .ok (.iload_n 2, 1) := by decide +kernel
theorem dX1_offset_61 : decode cX1_offset 61 = .ok (.invokestatic 68, 3) := by decide +kernel
theorem dX1_offset_64 : decode cX1_offset 64 = .ok (.ireturn, 1) := by decide +kernel
theorem dX1_swung_0 : decode cX1_swung 0 = .ok (.iload_n 0, 1) := by decide +kernel
theorem dX1_swung_1 : decode cX1_swung 1 = .ok (.ifCond .gt 5, 3) := by decide +kernel
theorem dX1_swung_4 : decode cX1_swung 4 = .ok (.iconst 0, 1) := by decide +kernel
theorem dX1_swung_5 : decode cX1_swung 5 = .ok (.ireturn, 1) := by decide +kernel
theorem dX1_swung_6 : decode cX1_swung 6 = .ok (.iload_n 1, 1) := by decide +kernel
theorem dX1_swung_7 : decode cX1_swung 7 = .ok (.iconst 4, 1) := by decide +kernel
theorem dX1_swung_8 : decode cX1_swung 8 = .ok (.iload_n 0, 1) := by decide +kernel
theorem dX1_swung_9 : decode cX1_swung 9 = .ok (.imul, 1) := by decide +kernel
theorem dX1_swung_10 : decode cX1_swung 10 = .ok (.irem, 1) := by decide +kernel
theorem dX1_swung_11 : decode cX1_swung 11 = .ok (.istore_n 2, 1) := by decide +kernel
theorem dX1_swung_12 : decode cX1_swung 12 = .ok (.iload_n 2, 1) := by decide +kernel
theorem dX1_swung_13 : decode cX1_swung 13 = .ok (.iload_n 0, 1) := by decide +kernel
theorem dX1_swung_14 : decode cX1_swung 14 = .ok (.if_icmp .gt 5, 3) := by decide +kernel
theorem dX1_swung_17 : decode cX1_swung 17 = .ok (.iload_n 2, 1) := by decide +kernel
theorem dX1_swung_18 : decode cX1_swung 18 = .ok (.ireturn, 1) := by decide +kernel
theorem dX1_swung_19 : decode cX1_swung 19 = .ok (.iload_n 2, 1) := by decide +kernel
theorem dX1_swung_20 : decode cX1_swung 20 = .ok (.iconst 3, 1) := by decide +kernel
theorem dX1_swung_21 : decode cX1_swung 21 = .ok (.iload_n 0, 1) := by decide +kernel
theorem dX1_swung_22 : decode cX1_swung 22 = .ok (.imul, 1) := by decide +kernel
theorem dX1_swung_23 : decode cX1_swung 23 = .ok (.if_icmp .gt 11, 3) := by decide +kernel
theorem dX1_swung_26 : decode cX1_swung 26 = .ok (.iconst 2, 1) := by decide +kernel
theorem dX1_swung_27 : decode cX1_swung 27 = .ok (.iload_n 0, 1) := by decide +kernel
theorem dX1_swung_28 : decode cX1_swung 28 = .ok (.imul, 1) := by decide +kernel
theorem dX1_swung_29 : decode cX1_swung 29 = .ok (.iload_n 2, 1) := by decide +kernel
theorem dX1_swung_30 : decode cX1_swung 30 = .ok (.isub, 1) := by decide +kernel
theorem dX1_swung_31 : decode cX1_swung 31 = .ok (.goto 8, 3) := by decide +kernel
theorem dX1_swung_34 : decode cX1_swung 34 = .ok (.iload_n 2, 1) := by decide +kernel
theorem dX1_swung_35 : decode cX1_swung 35 = .ok (.iconst 4, 1) := by decide +kernel
theorem dX1_swung_36 : decode cX1_swung 36 = .ok (.iload_n 0, 1) := by decide +kernel
theorem dX1_swung_37 : decode cX1_swung 37 = .ok (.imul, 1) := by decide +kernel
theorem dX1_swung_38 : decode cX1_swung 38 = .ok (.isub, 1) := by decide +kernel
theorem dX1_swung_39 : decode cX1_swung 39 = .ok (.ireturn, 1) := by decide +kernel
theorem dX1_spot_0 : decode cX1_spot 0 = .ok (.aload_n 0, 1) := by decide +kernel
theorem dX1_spot_1 : decode cX1_spot 1 = .ok (.iload_n 1, 1) := by decide +kernel
theorem dX1_spot_2 : decode cX1_spot 2 = .ok (.iload_n 2, 1) := by decide +kernel
theorem dX1_spot_3 : decode cX1_spot 3 = .ok (.invokevirtual 61, 3) := by decide +kernel
theorem dX1_spot_6 : decode cX1_spot 6 = .ok (.ifCond .eq 9, 3) := by decide +kernel
theorem dX1_spot_9 : decode cX1_spot 9 = .ok (.sipush (-1000), 3) := by decide +kernel
theorem dX1_spot_12 : decode cX1_spot 12 = .ok (.goto 9, 3) := by decide +kernel
theorem dX1_spot_15 : decode cX1_spot 15 = .ok (.aload_n 0, 1) := by decide +kernel
theorem dX1_spot_16 : decode cX1_spot 16 = .ok (.iload_n 1, 1) := by decide +kernel
theorem dX1_spot_17 : decode cX1_spot 17 = .ok (.iload_n 2, 1) := by decide +kernel
theorem dX1_spot_18 : decode cX1_spot 18 = .ok (.invokevirtual 71, 3) := by decide +kernel
theorem dX1_spot_21 : decode cX1_spot 21 = .ok (.ireturn, 1) := by decide +kernel
theorem dX1_areNear_0 : decode cX1_areNear 0 = .ok (.iload_n 1, 1) := by decide +kernel
theorem dX1_areNear_1 : decode cX1_areNear 1 = .ok (.sipush (-1000), 3) := by decide +kernel
theorem dX1_areNear_4 : decode cX1_areNear 4 = .ok (.if_icmp .eq 29, 3) := by decide +kernel
theorem dX1_areNear_7 : decode cX1_areNear 7 = .ok (.iload_n 2, 1) := by decide +kernel
theorem dX1_areNear_8 : decode cX1_areNear 8 = .ok (.sipush (-1000), 3) := by decide +kernel
theorem dX1_areNear_11 : decode cX1_areNear 11 = .ok (.if_icmp .eq 22, 3) := by decide +kernel
theorem dX1_areNear_14 : decode cX1_areNear 14 = .ok (.iload_n 1, 1) := by decide +kernel
theorem dX1_areNear_15 : decode cX1_areNear 15 = .ok (.iload_n 2, 1) := by decide +kernel
theorem dX1_areNear_16 : decode cX1_areNear 16 = .ok (.isub, 1) := by decide +kernel
theorem dX1_areNear_17 : decode cX1_areNear 17 = .ok (.invokestatic 74, 3) := by decide +kernel
theorem dX1_areNear_20 : decode cX1_areNear 20 = .ok (.iconst 2, 1) := by decide +kernel
theorem dX1_areNear_21 : decode cX1_areNear 21 = .ok (.aload_n 0, 1) := by decide +kernel
theorem dX1_areNear_22 : decode cX1_areNear 22 = .ok (.getfield 50, 3) := by decide +kernel
theorem dX1_areNear_25 : decode cX1_areNear 25 = .ok (.imul, 1) := by decide +kernel
theorem dX1_areNear_26 : decode cX1_areNear 26 = .ok (.if_icmp .gt 7, 3) := by decide +kernel
theorem dX1_areNear_29 : decode cX1_areNear 29 = .ok (.iconst 1, 1) := by decide +kernel
theorem dX1_areNear_30 : decode cX1_areNear 30 = .ok (.goto 4, 3) := by decide +kernel
theorem dX1_areNear_33 : decode cX1_areNear 33 = .ok (.iconst 0, 1) := by decide +kernel
theorem dX1_areNear_34 : decode cX1_areNear 34 = .ok (.ireturn, 1) := by decide +kernel
theorem dX1_nearBits_0 : decode cX1_nearBits 0 = .ok (.iconst 0, 1) := by decide +kernel
theorem dX1_nearBits_1 : decode cX1_nearBits 1 = .ok (.istore_n 3, 1) := by decide +kernel
theorem dX1_nearBits_2 : decode cX1_nearBits 2 = .ok (.aload_n 0, 1) := by decide +kernel
theorem dX1_nearBits_3 : decode cX1_nearBits 3 = .ok (.iload_n 1, 1) := by decide +kernel
theorem dX1_nearBits_4 : decode cX1_nearBits 4 = .ok (.iload_n 2, 1) := by decide +kernel
theorem dX1_nearBits_5 : decode cX1_nearBits 5 = .ok (.invokevirtual 80, 3) := by decide +kernel
theorem dX1_nearBits_8 : decode cX1_nearBits 8 = .ok (.istore 4, 2) := by decide +kernel
theorem dX1_nearBits_10 : decode cX1_nearBits 10 = .ok (.iconst 0, 1) := by decide +kernel
theorem dX1_nearBits_11 : decode cX1_nearBits 11 = .ok (.istore 5, 2) := by decide +kernel
theorem dX1_nearBits_13 : decode cX1_nearBits 13 = .ok (.iload 5, 2) := by decide +kernel
theorem dX1_nearBits_15 : decode cX1_nearBits 15 = .ok (.aload_n 0, 1) := by decide +kernel
theorem dX1_nearBits_16 : decode cX1_nearBits 16 = .ok (.getfield 35, 3) := by decide +kernel
theorem dX1_nearBits_19 : decode cX1_nearBits 19 = .ok (.if_icmp .ge 38, 3) := by decide +kernel
theorem dX1_nearBits_22 : decode cX1_nearBits 22 = .ok (.iload 5, 2) := by decide +kernel
theorem dX1_nearBits_24 : decode cX1_nearBits 24 = .ok (.iload_n 1, 1) := by decide +kernel
theorem dX1_nearBits_25 : decode cX1_nearBits 25 = .ok (.if_icmp .eq 26, 3) := by decide +kernel
theorem dX1_nearBits_28 : decode cX1_nearBits 28 = .ok (.aload_n 0, 1) := by decide +kernel
theorem dX1_nearBits_29 : decode cX1_nearBits 29 = .ok (.iload 4, 2) := by decide +kernel
theorem dX1_nearBits_31 : decode cX1_nearBits 31 = .ok (.aload_n 0, 1) := by decide +kernel
theorem dX1_nearBits_32 : decode cX1_nearBits 32 = .ok (.iload 5, 2) := by decide +kernel
theorem dX1_nearBits_34 : decode cX1_nearBits 34 = .ok (.iload_n 2, 1) := by decide +kernel
theorem dX1_nearBits_35 : decode cX1_nearBits 35 = .ok (.invokevirtual 80, 3) := by decide +kernel
theorem dX1_nearBits_38 : decode cX1_nearBits 38 = .ok (.invokevirtual 83, 3) := by decide +kernel
theorem dX1_nearBits_41 : decode cX1_nearBits 41 = .ok (.ifCond .eq 10, 3) := by decide +kernel
theorem dX1_nearBits_44 : decode cX1_nearBits 44 = .ok (.iload_n 3, 1) := by decide +kernel
theorem dX1_nearBits_45 : decode cX1_nearBits 45 = .ok (.iconst 1, 1) := by decide +kernel
theorem dX1_nearBits_46 : decode cX1_nearBits 46 = .ok (.iload 5, 2) := by decide +kernel
theorem dX1_nearBits_48 : decode cX1_nearBits 48 = .ok (.ishl, 1) := by decide +kernel
theorem dX1_nearBits_49 : decode cX1_nearBits 49 = .ok (.ior, 1) := by decide +kernel
theorem dX1_nearBits_50 : decode cX1_nearBits 50 = .ok (.istore_n 3, 1) := by decide +kernel
theorem dX1_nearBits_51 : decode cX1_nearBits 51 = .ok (.iinc 5 1, 3) := by decide +kernel
theorem dX1_nearBits_54 : decode cX1_nearBits 54 = .ok (.goto (-41), 3) := by decide +kernel
theorem dX1_nearBits_57 : decode cX1_nearBits 57 = .ok (.iload_n 3, 1) := by decide +kernel
theorem dX1_nearBits_58 : decode cX1_nearBits 58 = .ok (.ireturn, 1) := by decide +kernel
theorem dX2_init_0 : decode cX2_init 0 = .ok (.aload_n 0, 1) := by decide +kernel
theorem dX2_init_1 : decode cX2_init 1 = .ok (.invokespecial 3, 3) := by decide +kernel
theorem dX2_init_4 : decode cX2_init 4 = .ok (.aload_n 0, 1) := by decide +kernel
theorem dX2_init_5 : decode cX2_init 5 = .ok (.sipush 360, 3) := by decide +kernel
theorem dX2_init_8 : decode cX2_init 8 = .ok (.newarray .int, 2) := by decide +kernel
theorem dX2_init_10 : decode cX2_init 10 = .ok (.putfield 9, 3) := by decide +kernel
theorem dX2_init_13 : decode cX2_init 13 = .ok (.aload_n 0, 1) := by decide +kernel
theorem dX2_init_14 : decode cX2_init 14 = .ok (.sipush 360, 3) := by decide +kernel
theorem dX2_init_17 : decode cX2_init 17 = .ok (.newarray .int, 2) := by decide +kernel
theorem dX2_init_19 : decode cX2_init 19 = .ok (.putfield 15, 3) := by decide +kernel
theorem dX2_init_22 : decode cX2_init 22 = .ok (.aload_n 0, 1) := by decide +kernel
theorem dX2_init_23 : decode cX2_init 23 = .ok (.bipush 6, 2) := by decide +kernel
theorem dX2_init_25 : decode cX2_init 25 = .ok (.newarray .int, 2) := by decide +kernel
theorem dX2_init_27 : decode cX2_init 27 = .ok (.putfield 18, 3) := by decide +kernel
theorem dX2_init_30 : decode cX2_init 30 = .ok (.return_, 1) := by decide +kernel
theorem dX2_foresee_0 : decode cX2_foresee 0 = .ok (.aload_n 0, 1) := by decide +kernel
theorem dX2_foresee_1 : decode cX2_foresee 1 = .ok (.aload_n 1, 1) := by decide +kernel
theorem dX2_foresee_2 : decode cX2_foresee 2 = .ok (.getfield 21, 3) := by decide +kernel
theorem dX2_foresee_5 : decode cX2_foresee 5 = .ok (.putfield 27, 3) := by decide +kernel
theorem dX2_foresee_8 : decode cX2_foresee 8 = .ok (.iconst 0, 1) := by decide +kernel
theorem dX2_foresee_9 : decode cX2_foresee 9 = .ok (.istore_n 3, 1) := by decide +kernel
theorem dX2_foresee_10 : decode cX2_foresee 10 = .ok (.iload_n 3, 1) := by decide +kernel
theorem dX2_foresee_11 : decode cX2_foresee 11 = .ok (.iload_n 2, 1) := by decide +kernel
theorem dX2_foresee_12 : decode cX2_foresee 12 = .ok (.if_icmp .ge 88, 3) := by decide +kernel
theorem dX2_foresee_15 : decode cX2_foresee 15 = .ok (.iload_n 3, 1) := by decide +kernel
theorem dX2_foresee_16 : decode cX2_foresee 16 = .ok (.bipush 60, 2) := by decide +kernel
theorem dX2_foresee_18 : decode cX2_foresee 18 = .ok (.if_icmp .ge 82, 3) := by decide +kernel
theorem dX2_foresee_21 : decode cX2_foresee 21 = .ok (.iload_n 3, 1) := by decide +kernel
theorem dX2_foresee_22 : decode cX2_foresee 22 = .ok (.bipush 6, 2) := by decide +kernel
theorem dX2_foresee_24 : decode cX2_foresee 24 = .ok (.imul, 1) := by decide +kernel
theorem dX2_foresee_25 : decode cX2_foresee 25 = .ok (.istore 4, 2) := by decide +kernel
theorem dX2_foresee_27 : decode cX2_foresee 27 = .ok (.iconst 0, 1) := by decide +kernel
theorem dX2_foresee_28 : decode cX2_foresee 28 = .ok (.istore 5, 2) := by decide +kernel
theorem dX2_foresee_30 : decode cX2_foresee 30 = .ok (.iload 5, 2) := by decide +kernel
theorem dX2_foresee_32 : decode cX2_foresee 32 = .ok (.aload_n 0, 1) := by decide +kernel
theorem dX2_foresee_33 : decode cX2_foresee 33 = .ok (.getfield 27, 3) := by decide +kernel
theorem dX2_foresee_36 : decode cX2_foresee 36 = .ok (.if_icmp .ge 31, 3) := by decide +kernel
theorem dX2_foresee_39 : decode cX2_foresee 39 = .ok (.aload_n 0, 1) := by decide +kernel
theorem dX2_foresee_40 : decode cX2_foresee 40 = .ok (.getfield 9, 3) := by decide +kernel
theorem dX2_foresee_43 : decode cX2_foresee 43 = .ok (.iload 4, 2) := by decide +kernel
theorem dX2_foresee_45 : decode cX2_foresee 45 = .ok (.iload 5, 2) := by decide +kernel
theorem dX2_foresee_47 : decode cX2_foresee 47 = .ok (.iadd, 1) := by decide +kernel
theorem dX2_foresee_48 : decode cX2_foresee 48 = .ok (.aload_n 1, 1) := by decide +kernel
theorem dX2_foresee_49 : decode cX2_foresee 49 = .ok (.iload 5, 2) := by decide +kernel
theorem dX2_foresee_51 : decode cX2_foresee 51 = .ok (.aload_n 1, 1) := by decide +kernel
theorem dX2_foresee_52 : decode cX2_foresee 52 = .ok (.getfield 28, 3) := by decide +kernel
theorem dX2_foresee_55 : decode cX2_foresee 55 = .ok (.iload_n 3, 1) := by decide +kernel
theorem dX2_foresee_56 : decode cX2_foresee 56 = .ok (.iadd, 1) := by decide +kernel
theorem dX2_foresee_57 : decode cX2_foresee 57 = .ok (.invokevirtual 31, 3) := by decide +kernel
theorem dX2_foresee_60 : decode cX2_foresee 60 = .ok (.iastore, 1) := by decide +kernel
theorem dX2_foresee_61 : decode cX2_foresee 61 = .ok (.iinc 5 1, 3) := by decide +kernel
theorem dX2_foresee_64 : decode cX2_foresee 64 = .ok (.goto (-34), 3) := by decide +kernel
theorem dX2_foresee_67 : decode cX2_foresee 67 = .ok (.iconst 0, 1) := by decide +kernel
theorem dX2_foresee_68 : decode cX2_foresee 68 = .ok (.istore 5, 2) := by decide +kernel
theorem dX2_foresee_70 : decode cX2_foresee 70 = .ok (.iload 5, 2) := by decide +kernel
theorem dX2_foresee_72 : decode cX2_foresee 72 = .ok (.aload_n 0, 1) := by decide +kernel
theorem dX2_foresee_73 : decode cX2_foresee 73 = .ok (.getfield 27, 3) := by decide +kernel
theorem dX2_foresee_76 : decode cX2_foresee 76 = .ok (.if_icmp .ge 18, 3) := by decide +kernel
theorem dX2_foresee_79 : decode cX2_foresee 79 = .ok (.aload_n 0, 1) := by decide +kernel
theorem dX2_foresee_80 : decode cX2_foresee 80 = .ok (.aload_n 1, 1) := by decide +kernel
theorem dX2_foresee_81 : decode cX2_foresee 81 = .ok (.iload 4, 2) := by decide +kernel
theorem dX2_foresee_83 : decode cX2_foresee 83 = .ok (.iload 5, 2) := by decide +kernel
theorem dX2_foresee_85 : decode cX2_foresee 85 = .ok (.invokevirtual 35, 3) := by decide +kernel
theorem dX2_foresee_88 : decode cX2_foresee 88 = .ok (.iinc 5 1, 3) := by decide +kernel
theorem dX2_foresee_91 : decode cX2_foresee 91 = .ok (.goto (-21), 3) := by decide +kernel
theorem dX2_foresee_94 : decode cX2_foresee 94 = .ok (.iinc 3 1, 3) := by decide +kernel
theorem dX2_foresee_97 : decode cX2_foresee 97 = .ok (.goto (-87), 3) := by decide +kernel
theorem dX2_foresee_100 : decode cX2_foresee 100 = .ok (.return_, 1) := by decide +kernel
theorem dX2_foreseeAnew_0 : decode cX2_foreseeAnew 0 = .ok (.iconst 0, 1) := by decide +kernel
theorem dX2_foreseeAnew_1 : decode cX2_foreseeAnew 1 = .ok (.istore 4, 2) := by decide +kernel
theorem dX2_foreseeAnew_3 : decode cX2_foreseeAnew 3 = .ok (.iload 4, 2) := by decide +kernel
theorem dX2_foreseeAnew_5 : decode cX2_foreseeAnew 5 = .ok (.iload_n 3, 1) := by decide +kernel
theorem dX2_foreseeAnew_6 : decode cX2_foreseeAnew 6 = .ok (.if_icmp .ge 52, 3) := by decide +kernel
theorem dX2_foreseeAnew_9 : decode cX2_foreseeAnew 9 = .ok (.iload 4, 2) := by decide +kernel
theorem dX2_foreseeAnew_11 : decode cX2_foreseeAnew 11 = .ok (.bipush 60, 2) := by decide +kernel
theorem dX2_foreseeAnew_13 : decode cX2_foreseeAnew 13 = .ok (.if_icmp .ge 45, 3) := by decide +kernel
theorem dX2_foreseeAnew_16 : decode cX2_foreseeAnew 16 = .ok (.iload 4, 2) := by decide +kernel
theorem dX2_foreseeAnew_18 : decode cX2_foreseeAnew 18 = .ok (.bipush 6, 2) := by decide +kernel
theorem dX2_foreseeAnew_20 : decode cX2_foreseeAnew 20 = .ok (.imul, 1) := by decide +kernel
theorem dX2_foreseeAnew_21 : decode cX2_foreseeAnew 21 = .ok (.istore 5, 2) := by decide +kernel
theorem dX2_foreseeAnew_23 : decode cX2_foreseeAnew 23 = .ok (.aload_n 0, 1) := by decide +kernel
theorem dX2_foreseeAnew_24 : decode cX2_foreseeAnew 24 = .ok (.getfield 9, 3) := by decide +kernel
theorem dX2_foreseeAnew_27 : decode cX2_foreseeAnew 27 = .ok (.iload 5, 2) := by decide +kernel
theorem dX2_foreseeAnew_29 : decode cX2_foreseeAnew 29 = .ok (.iload_n 2, 1) := by decide +kernel
theorem dX2_foreseeAnew_30 : decode cX2_foreseeAnew 30 = .ok (.iadd, 1) := by decide +kernel
theorem dX2_foreseeAnew_31 : decode cX2_foreseeAnew 31 = .ok (.aload_n 1, 1) := by decide +kernel
theorem dX2_foreseeAnew_32 : decode cX2_foreseeAnew 32 = .ok (.iload_n 2, 1) := by decide +kernel
theorem dX2_foreseeAnew_33 : decode cX2_foreseeAnew 33 = .ok (.aload_n 1, 1) := by decide +kernel
theorem dX2_foreseeAnew_34 : decode cX2_foreseeAnew 34 = .ok (.getfield 28, 3) := by decide +kernel
theorem dX2_foreseeAnew_37 : decode cX2_foreseeAnew 37 = .ok (.iload 4, 2) := by decide +kernel
theorem dX2_foreseeAnew_39 : decode cX2_foreseeAnew 39 = .ok (.iadd, 1) := by decide +kernel
theorem dX2_foreseeAnew_40 : decode cX2_foreseeAnew 40 = .ok (.invokevirtual 31, 3) := by decide +kernel
theorem dX2_foreseeAnew_43 : decode cX2_foreseeAnew 43 = .ok (.iastore, 1) := by decide +kernel
theorem dX2_foreseeAnew_44 : decode cX2_foreseeAnew 44 = .ok (.aload_n 0, 1) := by decide +kernel
theorem dX2_foreseeAnew_45 : decode cX2_foreseeAnew 45 = .ok (.aload_n 1, 1) := by decide +kernel
theorem dX2_foreseeAnew_46 : decode cX2_foreseeAnew 46 = .ok (.iload 5, 2) := by decide +kernel
theorem dX2_foreseeAnew_48 : decode cX2_foreseeAnew 48 = .ok (.iload_n 2, 1) := by decide +kernel
theorem dX2_foreseeAnew_49 : decode cX2_foreseeAnew 49 = .ok (.invokevirtual 35, 3) := by decide +kernel
theorem dX2_foreseeAnew_52 : decode cX2_foreseeAnew 52 = .ok (.iinc 4 1, 3) := by decide +kernel
theorem dX2_foreseeAnew_55 : decode cX2_foreseeAnew 55 = .ok (.goto (-52), 3) := by decide +kernel
theorem dX2_foreseeAnew_58 : decode cX2_foreseeAnew 58 = .ok (.return_, 1) := by decide +kernel
theorem dX2_link_0 : decode cX2_link 0 = .ok (.iconst 0, 1) := by decide +kernel
theorem dX2_link_1 : decode cX2_link 1 = .ok (.istore 4, 2) := by decide +kernel
theorem dX2_link_3 : decode cX2_link 3 = .ok (.iconst 0, 1) := by decide +kernel
theorem dX2_link_4 : decode cX2_link 4 = .ok (.istore 5, 2) := by decide +kernel
theorem dX2_link_6 : decode cX2_link 6 = .ok (.iload 5, 2) := by decide +kernel
theorem dX2_link_8 : decode cX2_link 8 = .ok (.aload_n 0, 1) := by decide +kernel
theorem dX2_link_9 : decode cX2_link 9 = .ok (.getfield 27, 3) := by decide +kernel
theorem dX2_link_12 : decode cX2_link 12 = .ok (.if_icmp .ge 83, 3) := by decide +kernel
theorem dX2_link_15 : decode cX2_link 15 = .ok (.iload 5, 2) := by decide +kernel
theorem dX2_link_17 : decode cX2_link 17 = .ok (.iload_n 3, 1) := by decide +kernel
theorem dX2_link_18 : decode cX2_link 18 = .ok (.if_icmp .eq 54, 3) := by decide +kernel
theorem dX2_link_21 : decode cX2_link 21 = .ok (.aload_n 1, 1) := by decide +kernel
theorem dX2_link_22 : decode cX2_link 22 = .ok (.aload_n 0, 1) := by decide +kernel
theorem dX2_link_23 : decode cX2_link 23 = .ok (.getfield 9, 3) := by decide +kernel
theorem dX2_link_26 : decode cX2_link 26 = .ok (.iload_n 2, 1) := by decide +kernel
theorem dX2_link_27 : decode cX2_link 27 = .ok (.iload_n 3, 1) := by decide +kernel
theorem dX2_link_28 : decode cX2_link 28 = .ok (.iadd, 1) := by decide +kernel
theorem dX2_link_29 : decode cX2_link 29 = .ok (.iaload, 1) := by decide +kernel
theorem dX2_link_30 : decode cX2_link 30 = .ok (.aload_n 0, 1) := by decide +kernel
theorem dX2_link_31 : decode cX2_link 31 = .ok (.getfield 9, 3) := by decide +kernel
theorem dX2_link_34 : decode cX2_link 34 = .ok (.iload_n 2, 1) := by decide +kernel
theorem dX2_link_35 : decode cX2_link 35 = .ok (.iload 5, 2) := by decide +kernel
theorem dX2_link_37 : decode cX2_link 37 = .ok (.iadd, 1) := by decide +kernel
theorem dX2_link_38 : decode cX2_link 38 = .ok (.iaload, 1) := by decide +kernel
theorem dX2_link_39 : decode cX2_link 39 = .ok (.invokevirtual 39, 3) := by decide +kernel
theorem dX2_link_42 : decode cX2_link 42 = .ok (.ifCond .eq 30, 3) := by decide +kernel
theorem dX2_link_45 : decode cX2_link 45 = .ok (.iload 4, 2) := by decide +kernel
theorem dX2_link_47 : decode cX2_link 47 = .ok (.iconst 1, 1) := by decide +kernel
theorem dX2_link_48 : decode cX2_link 48 = .ok (.iload 5, 2) := by decide +kernel
theorem dX2_link_50 : decode cX2_link 50 = .ok (.ishl, 1) := by decide +kernel
theorem dX2_link_51 : decode cX2_link 51 = .ok (.ior, 1) := by decide +kernel
theorem dX2_link_52 : decode cX2_link 52 = .ok (.istore 4, 2) := by decide +kernel
theorem dX2_link_54 : decode cX2_link 54 = .ok (.aload_n 0, 1) := by decide +kernel
theorem dX2_link_55 : decode cX2_link 55 = .ok (.getfield 15, 3) := by decide +kernel
theorem dX2_link_58 : decode cX2_link 58 = .ok (.iload_n 2, 1) := by decide +kernel
theorem dX2_link_59 : decode cX2_link 59 = .ok (.iload 5, 2) := by decide +kernel
theorem dX2_link_61 : decode cX2_link 61 = .ok (.iadd, 1) := by decide +kernel
theorem dX2_link_62 : decode cX2_link 62 = .ok (.dup2, 1) := by decide +kernel
theorem dX2_link_63 : decode cX2_link 63 = .ok (.iaload, 1) := by decide +kernel
theorem dX2_link_64 : decode cX2_link 64 = .ok (.iconst 1, 1) := by decide +kernel
theorem dX2_link_65 : decode cX2_link 65 = .ok (.iload_n 3, 1) := by decide +kernel
theorem dX2_link_66 : decode cX2_link 66 = .ok (.ishl, 1) := by decide +kernel
theorem dX2_link_67 : decode cX2_link 67 = .ok (.ior, 1) := by decide +kernel
theorem dX2_link_68 : decode cX2_link 68 = .ok (.iastore, 1) := by decide +kernel
theorem dX2_link_69 : decode cX2_link 69 = .ok (.goto 20, 3) := by decide +kernel
theorem dX2_link_72 : decode cX2_link 72 = .ok (.aload_n 0, 1) := by decide +kernel
theorem dX2_link_73 : decode cX2_link 73 = .ok (.getfield 15, 3) := by decide +kernel
theorem dX2_link_76 : decode cX2_link 76 = .ok (.iload_n 2, 1) := by decide +kernel
theorem dX2_link_77 : decode cX2_link 77 = .ok (.iload 5, 2) := by decide +kernel
theorem dX2_link_79 : decode cX2_link 79 = .ok (.iadd, 1) := by decide +kernel
theorem dX2_link_80 : decode cX2_link 80 = .ok (.dup2, 1) := by decide +kernel
theorem dX2_link_81 : decode cX2_link 81 = .ok (.iaload, 1) := by decide +kernel
theorem dX2_link_82 : decode cX2_link 82 = .ok (.iconst 1, 1) := by decide +kernel
theorem dX2_link_83 : decode cX2_link 83 = .ok (.iload_n 3, 1) := by decide +kernel
theorem dX2_link_84 : decode cX2_link 84 = .ok (.ishl, 1) := by decide +kernel
theorem dX2_link_85 : decode cX2_link 85 = .ok (.iconst (-1), 1) := by decide +kernel
theorem dX2_link_86 : decode cX2_link 86 = .ok (.ixor, 1) := by decide +kernel
theorem dX2_link_87 : decode cX2_link 87 = .ok (.iand, 1) := by decide +kernel
theorem dX2_link_88 : decode cX2_link 88 = .ok (.iastore, 1) := by decide +kernel
theorem dX2_link_89 : decode cX2_link 89 = .ok (.iinc 5 1, 3) := by decide +kernel
theorem dX2_link_92 : decode cX2_link 92 = .ok (.goto (-86), 3) := by decide +kernel
theorem dX2_link_95 : decode cX2_link 95 = .ok (.aload_n 0, 1) := by decide +kernel
theorem dX2_link_96 : decode cX2_link 96 = .ok (.getfield 15, 3) := by decide +kernel
theorem dX2_link_99 : decode cX2_link 99 = .ok (.iload_n 2, 1) := by decide +kernel
theorem dX2_link_100 : decode cX2_link 100 = .ok (.iload_n 3, 1) := by decide +kernel
theorem dX2_link_101 : decode cX2_link 101 = .ok (.iadd, 1) := by decide +kernel
theorem dX2_link_102 : decode cX2_link 102 = .ok (.iload 4, 2) := by decide +kernel
theorem dX2_link_104 : decode cX2_link 104 = .ok (.iastore, 1) := by decide +kernel
theorem dX2_link_105 : decode cX2_link 105 = .ok (.return_, 1) := by decide +kernel
theorem dX2_spread_0 : decode cX2_spread 0 = .ok (.iload_n 1, 1) := by decide +kernel
theorem dX2_spread_1 : decode cX2_spread 1 = .ok (.istore 4, 2) := by decide +kernel
theorem dX2_spread_3 : decode cX2_spread 3 = .ok (.iconst 0, 1) := by decide +kernel
theorem dX2_spread_4 : decode cX2_spread 4 = .ok (.istore 5, 2) := by decide +kernel
theorem dX2_spread_6 : decode cX2_spread 6 = .ok (.iload 5, 2) := by decide +kernel
theorem dX2_spread_8 : decode cX2_spread 8 = .ok (.aload_n 0, 1) := by decide +kernel
theorem dX2_spread_9 : decode cX2_spread 9 = .ok (.getfield 27, 3) := by decide +kernel
theorem dX2_spread_12 : decode cX2_spread 12 = .ok (.if_icmp .ge 44, 3) := by decide +kernel
theorem dX2_spread_15 : decode cX2_spread 15 = .ok (.iload_n 1, 1) := by decide +kernel
theorem dX2_spread_16 : decode cX2_spread 16 = .ok (.iload_n 3, 1) := by decide +kernel
theorem dX2_spread_17 : decode cX2_spread 17 = .ok (.iconst (-1), 1) := by decide +kernel
theorem dX2_spread_18 : decode cX2_spread 18 = .ok (.ixor, 1) := by decide +kernel
theorem dX2_spread_19 : decode cX2_spread 19 = .ok (.iand, 1) := by decide +kernel
theorem dX2_spread_20 : decode cX2_spread 20 = .ok (.iload 5, 2) := by decide +kernel
theorem dX2_spread_22 : decode cX2_spread 22 = .ok (.ishr, 1) := by decide +kernel
theorem dX2_spread_23 : decode cX2_spread 23 = .ok (.iconst 1, 1) := by decide +kernel
theorem dX2_spread_24 : decode cX2_spread 24 = .ok (.iand, 1) := by decide +kernel
theorem dX2_spread_25 : decode cX2_spread 25 = .ok (.iconst 1, 1) := by decide +kernel
theorem dX2_spread_26 : decode cX2_spread 26 = .ok (.if_icmp .ne 24, 3) := by decide +kernel
theorem dX2_spread_29 : decode cX2_spread 29 = .ok (.iload 4, 2) := by decide +kernel
theorem dX2_spread_31 : decode cX2_spread 31 = .ok (.aload_n 0, 1) := by decide +kernel
theorem dX2_spread_32 : decode cX2_spread 32 = .ok (.getfield 15, 3) := by decide +kernel
theorem dX2_spread_35 : decode cX2_spread 35 = .ok (.iload_n 2, 1) := by decide +kernel
theorem dX2_spread_36 : decode cX2_spread 36 = .ok (.bipush 6, 2) := by decide +kernel
theorem dX2_spread_38 : decode cX2_spread 38 = .ok (.imul, 1) := by decide +kernel
theorem dX2_spread_39 : decode cX2_spread 39 = .ok (.iload 5, 2) := by decide +kernel
theorem dX2_spread_41 : decode cX2_spread 41 = .ok (.iadd, 1) := by decide +kernel
theorem dX2_spread_42 : decode cX2_spread 42 = .ok (.iaload, 1) := by decide +kernel
theorem dX2_spread_43 : decode cX2_spread 43 = .ok (.iload_n 3, 1) := by decide +kernel
theorem dX2_spread_44 : decode cX2_spread 44 = .ok (.iconst (-1), 1) := by decide +kernel
theorem dX2_spread_45 : decode cX2_spread 45 = .ok (.ixor, 1) := by decide +kernel
theorem dX2_spread_46 : decode cX2_spread 46 = .ok (.iand, 1) := by decide +kernel
theorem dX2_spread_47 : decode cX2_spread 47 = .ok (.ior, 1) := by decide +kernel
theorem dX2_spread_48 : decode cX2_spread 48 = .ok (.istore 4, 2) := by decide +kernel
theorem dX2_spread_50 : decode cX2_spread 50 = .ok (.iinc 5 1, 3) := by decide +kernel
theorem dX2_spread_53 : decode cX2_spread 53 = .ok (.goto (-47), 3) := by decide +kernel
theorem dX2_spread_56 : decode cX2_spread 56 = .ok (.iload 4, 2) := by decide +kernel
theorem dX2_spread_58 : decode cX2_spread 58 = .ok (.ireturn, 1) := by decide +kernel
theorem dX2_holders_0 : decode cX2_holders 0 = .ok (.iconst 1, 1) := by decide +kernel
theorem dX2_holders_1 : decode cX2_holders 1 = .ok (.iload_n 1, 1) := by decide +kernel
theorem dX2_holders_2 : decode cX2_holders 2 = .ok (.ishl, 1) := by decide +kernel
theorem dX2_holders_3 : decode cX2_holders 3 = .ok (.istore_n 3, 1) := by decide +kernel
theorem dX2_holders_4 : decode cX2_holders 4 = .ok (.iconst 0, 1) := by decide +kernel
theorem dX2_holders_5 : decode cX2_holders 5 = .ok (.istore 4, 2) := by decide +kernel
theorem dX2_holders_7 : decode cX2_holders 7 = .ok (.iload 4, 2) := by decide +kernel
theorem dX2_holders_9 : decode cX2_holders 9 = .ok (.iload_n 2, 1) := by decide +kernel
theorem dX2_holders_10 : decode cX2_holders 10 = .ok (.if_icmp .ge 25, 3) := by decide +kernel
theorem dX2_holders_13 : decode cX2_holders 13 = .ok (.iload 4, 2) := by decide +kernel
theorem dX2_holders_15 : decode cX2_holders 15 = .ok (.bipush 60, 2) := by decide +kernel
theorem dX2_holders_17 : decode cX2_holders 17 = .ok (.if_icmp .ge 18, 3) := by decide +kernel
theorem dX2_holders_20 : decode cX2_holders 20 = .ok (.aload_n 0, 1) := by decide +kernel
theorem dX2_holders_21 : decode cX2_holders 21 = .ok (.iload_n 3, 1) := by decide +kernel
theorem dX2_holders_22 : decode cX2_holders 22 = .ok (.iload 4, 2) := by decide +kernel
theorem dX2_holders_24 : decode cX2_holders 24 = .ok (.iconst 0, 1) := by decide +kernel
theorem dX2_holders_25 : decode cX2_holders 25 = .ok (.invokevirtual 43, 3) := by decide +kernel
theorem dX2_holders_28 : decode cX2_holders 28 = .ok (.istore_n 3, 1) := by decide +kernel
theorem dX2_holders_29 : decode cX2_holders 29 = .ok (.iinc 4 1, 3) := by decide +kernel
theorem dX2_holders_32 : decode cX2_holders 32 = .ok (.goto (-25), 3) := by decide +kernel
theorem dX2_holders_35 : decode cX2_holders 35 = .ok (.iload_n 3, 1) := by decide +kernel
theorem dX2_holders_36 : decode cX2_holders 36 = .ok (.ireturn, 1) := by decide +kernel
theorem dX2_arrival_0 : decode cX2_arrival 0 = .ok (.iconst 1, 1) := by decide +kernel
theorem dX2_arrival_1 : decode cX2_arrival 1 = .ok (.iload_n 1, 1) := by decide +kernel
theorem dX2_arrival_2 : decode cX2_arrival 2 = .ok (.ishl, 1) := by decide +kernel
theorem dX2_arrival_3 : decode cX2_arrival 3 = .ok (.istore 5, 2) := by decide +kernel
theorem dX2_arrival_5 : decode cX2_arrival 5 = .ok (.iconst 0, 1) := by decide +kernel
theorem dX2_arrival_6 : decode cX2_arrival 6 = .ok (.istore 6, 2) := by decide +kernel
theorem dX2_arrival_8 : decode cX2_arrival 8 = .ok (.iload 6, 2) := by decide +kernel
theorem dX2_arrival_10 : decode cX2_arrival 10 = .ok (.iload_n 3, 1) := by decide +kernel
theorem dX2_arrival_11 : decode cX2_arrival 11 = .ok (.if_icmp .ge 37, 3) := by decide +kernel
theorem dX2_arrival_14 : decode cX2_arrival 14 = .ok (.iload 6, 2) := by decide +kernel
theorem dX2_arrival_16 : decode cX2_arrival 16 = .ok (.bipush 60, 2) := by decide +kernel
theorem dX2_arrival_18 : decode cX2_arrival 18 = .ok (.if_icmp .ge 30, 3) := by decide +kernel
theorem dX2_arrival_21 : decode cX2_arrival 21 = .ok (.iload 5, 2) := by decide +kernel
theorem dX2_arrival_23 : decode cX2_arrival 23 = .ok (.iload_n 2, 1) := by decide +kernel
theorem dX2_arrival_24 : decode cX2_arrival 24 = .ok (.ishr, 1) := by decide +kernel
theorem dX2_arrival_25 : decode cX2_arrival 25 = .ok (.iconst 1, 1) := by decide +kernel
theorem dX2_arrival_26 : decode cX2_arrival 26 = .ok (.iand, 1) := by decide +kernel
theorem dX2_arrival_27 : decode cX2_arrival 27 = .ok (.ifCond .ne 21, 3) := by decide +kernel
theorem dX2_arrival_30 : decode cX2_arrival 30 = .ok (.aload_n 0, 1) := by decide +kernel
theorem dX2_arrival_31 : decode cX2_arrival 31 = .ok (.iload 5, 2) := by decide +kernel
theorem dX2_arrival_33 : decode cX2_arrival 33 = .ok (.iload 6, 2) := by decide +kernel
theorem dX2_arrival_35 : decode cX2_arrival 35 = .ok (.iload 4, 2) := by decide +kernel
theorem dX2_arrival_37 : decode cX2_arrival 37 = .ok (.invokevirtual 43, 3) := by decide +kernel
theorem dX2_arrival_40 : decode cX2_arrival 40 = .ok (.istore 5, 2) := by decide +kernel
theorem dX2_arrival_42 : decode cX2_arrival 42 = .ok (.iinc 6 1, 3) := by decide +kernel
theorem dX2_arrival_45 : decode cX2_arrival 45 = .ok (.goto (-37), 3) := by decide +kernel
theorem dX2_arrival_48 : decode cX2_arrival 48 = .ok (.iload 5, 2) := by decide +kernel
theorem dX2_arrival_50 : decode cX2_arrival 50 = .ok (.iload_n 2, 1) := by decide +kernel
theorem dX2_arrival_51 : decode cX2_arrival 51 = .ok (.ishr, 1) := by decide +kernel
theorem dX2_arrival_52 : decode cX2_arrival 52 = .ok (.iconst 1, 1) := by decide +kernel
theorem dX2_arrival_53 : decode cX2_arrival 53 = .ok (.iand, 1) := by decide +kernel
theorem dX2_arrival_54 : decode cX2_arrival 54 = .ok (.iconst 1, 1) := by decide +kernel
theorem dX2_arrival_55 : decode cX2_arrival 55 = .ok (.if_icmp .ne 8, 3) := by decide +kernel
theorem dX2_arrival_58 : decode cX2_arrival 58 = .ok (.iload 6, 2) := by decide +kernel
theorem dX2_arrival_60 : decode cX2_arrival 60 = .ok (.goto 5, 3) := by decide +kernel
theorem dX2_arrival_63 : decode cX2_arrival 63 = .ok (.ldc 47, 2) := by decide +kernel
theorem dX2_arrival_65 : decode cX2_arrival 65 = .ok (.ireturn, 1) := by decide +kernel
theorem dX2_fewestHands_0 : decode cX2_fewestHands 0 = .ok (.iconst 0, 1) := by decide +kernel
theorem dX2_fewestHands_1 : decode cX2_fewestHands 1 = .ok (.istore_n 3, 1) := by decide +kernel
theorem dX2_fewestHands_2 : decode cX2_fewestHands 2 = .ok (.iload_n 3, 1) := by decide +kernel
theorem dX2_fewestHands_3 : decode cX2_fewestHands 3 = .ok (.bipush 6, 2) := by decide +kernel
theorem dX2_fewestHands_5 : decode cX2_fewestHands 5 = .ok (.if_icmp .ge 18, 3) := by decide +kernel
theorem dX2_fewestHands_8 : decode cX2_fewestHands 8 = .ok (.aload_n 0, 1) := by decide +kernel
theorem dX2_fewestHands_9 : decode cX2_fewestHands 9 = .ok (.getfield 18, 3) := by decide +kernel
theorem dX2_fewestHands_12 : decode cX2_fewestHands 12 = .ok (.iload_n 3, 1) := by decide +kernel
theorem dX2_fewestHands_13 : decode cX2_fewestHands 13 = .ok (.iconst 1, 1) := by decide +kernel
theorem dX2_fewestHands_14 : decode cX2_fewestHands 14 = .ok (.iload_n 1, 1) := by decide +kernel
theorem dX2_fewestHands_15 : decode cX2_fewestHands 15 = .ok (.ishl, 1) := by decide +kernel
theorem dX2_fewestHands_16 : decode cX2_fewestHands 16 = .ok (.iastore, 1) := by decide +kernel
theorem dX2_fewestHands_17 : decode cX2_fewestHands 17 = .ok (.iinc 3 1, 3) := by decide +kernel
theorem dX2_fewestHands_20 : decode cX2_fewestHands 20 = .ok (.goto (-18), 3) := by decide +kernel
theorem dX2_fewestHands_23 : decode cX2_fewestHands 23 = .ok (.iconst 0, 1) := by decide +kernel
theorem dX2_fewestHands_24 : decode cX2_fewestHands 24 = .ok (.istore_n 3, 1) := by decide +kernel
theorem dX2_fewestHands_25 : decode cX2_fewestHands 25 = .ok (.iload_n 3, 1) := by decide +kernel
theorem dX2_fewestHands_26 : decode cX2_fewestHands 26 = .ok (.bipush 60, 2) := by decide +kernel
theorem dX2_fewestHands_28 : decode cX2_fewestHands 28 = .ok (.if_icmp .ge 48, 3) := by decide +kernel
theorem dX2_fewestHands_31 : decode cX2_fewestHands 31 = .ok (.iconst 5, 1) := by decide +kernel
theorem dX2_fewestHands_32 : decode cX2_fewestHands 32 = .ok (.istore 4, 2) := by decide +kernel
theorem dX2_fewestHands_34 : decode cX2_fewestHands 34 = .ok (.iload 4, 2) := by decide +kernel
theorem dX2_fewestHands_36 : decode cX2_fewestHands 36 = .ok (.ifCond .le 34, 3) := by decide +kernel
theorem dX2_fewestHands_39 : decode cX2_fewestHands 39 = .ok (.aload_n 0, 1) := by decide +kernel
theorem dX2_fewestHands_40 : decode cX2_fewestHands 40 = .ok (.getfield 18, 3) := by decide +kernel
theorem dX2_fewestHands_43 : decode cX2_fewestHands 43 = .ok (.iload 4, 2) := by decide +kernel
theorem dX2_fewestHands_45 : decode cX2_fewestHands 45 = .ok (.dup2, 1) := by decide +kernel
theorem dX2_fewestHands_46 : decode cX2_fewestHands 46 = .ok (.iaload, 1) := by decide +kernel
theorem dX2_fewestHands_47 : decode cX2_fewestHands 47 = .ok (.aload_n 0, 1) := by decide +kernel
theorem dX2_fewestHands_48 : decode cX2_fewestHands 48 = .ok (.aload_n 0, 1) := by decide +kernel
theorem dX2_fewestHands_49 : decode cX2_fewestHands 49 = .ok (.getfield 18, 3) := by decide +kernel
theorem dX2_fewestHands_52 : decode cX2_fewestHands 52 = .ok (.iload 4, 2) := by decide +kernel
theorem dX2_fewestHands_54 : decode cX2_fewestHands 54 = .ok (.iconst 1, 1) := by decide +kernel
theorem dX2_fewestHands_55 : decode cX2_fewestHands 55 = .ok (.isub, 1) := by decide +kernel
theorem dX2_fewestHands_56 : decode cX2_fewestHands 56 = .ok (.iaload, 1) := by decide +kernel
theorem dX2_fewestHands_57 : decode cX2_fewestHands 57 = .ok (.iload_n 3, 1) := by decide +kernel
theorem dX2_fewestHands_58 : decode cX2_fewestHands 58 = .ok (.iconst 0, 1) := by decide +kernel
theorem dX2_fewestHands_59 : decode cX2_fewestHands 59 = .ok (.invokevirtual 43, 3) := by decide +kernel
theorem dX2_fewestHands_62 : decode cX2_fewestHands 62 = .ok (.ior, 1) := by decide +kernel
theorem dX2_fewestHands_63 : decode cX2_fewestHands 63 = .ok (.iastore, 1) := by decide +kernel
theorem dX2_fewestHands_64 : decode cX2_fewestHands 64 = .ok (.iinc 4 (-1), 3) := by decide +kernel
theorem dX2_fewestHands_67 : decode cX2_fewestHands 67 = .ok (.goto (-33), 3) := by decide +kernel
theorem dX2_fewestHands_70 : decode cX2_fewestHands 70 = .ok (.iinc 3 1, 3) := by decide +kernel
theorem dX2_fewestHands_73 : decode cX2_fewestHands 73 = .ok (.goto (-48), 3) := by decide +kernel
theorem dX2_fewestHands_76 : decode cX2_fewestHands 76 = .ok (.iconst 0, 1) := by decide +kernel
theorem dX2_fewestHands_77 : decode cX2_fewestHands 77 = .ok (.istore_n 3, 1) := by decide +kernel
theorem dX2_fewestHands_78 : decode cX2_fewestHands 78 = .ok (.iload_n 3, 1) := by decide +kernel
theorem dX2_fewestHands_79 : decode cX2_fewestHands 79 = .ok (.bipush 6, 2) := by decide +kernel
theorem dX2_fewestHands_81 : decode cX2_fewestHands 81 = .ok (.if_icmp .ge 25, 3) := by decide +kernel
theorem dX2_fewestHands_84 : decode cX2_fewestHands 84 = .ok (.aload_n 0, 1) := by decide +kernel
theorem dX2_fewestHands_85 : decode cX2_fewestHands 85 = .ok (.getfield 18, 3) := by decide +kernel
theorem dX2_fewestHands_88 : decode cX2_fewestHands 88 = .ok (.iload_n 3, 1) := by decide +kernel
theorem dX2_fewestHands_89 : decode cX2_fewestHands 89 = .ok (.iaload, 1) := by decide +kernel
theorem dX2_fewestHands_90 : decode cX2_fewestHands 90 = .ok (.iload_n 2, 1) := by decide +kernel
theorem dX2_fewestHands_91 : decode cX2_fewestHands 91 = .ok (.ishr, 1) := by decide +kernel
theorem dX2_fewestHands_92 : decode cX2_fewestHands 92 = .ok (.iconst 1, 1) := by decide +kernel
theorem dX2_fewestHands_93 : decode cX2_fewestHands 93 = .ok (.iand, 1) := by decide +kernel
theorem dX2_fewestHands_94 : decode cX2_fewestHands 94 = .ok (.iconst 1, 1) := by decide +kernel
theorem dX2_fewestHands_95 : decode cX2_fewestHands 95 = .ok (.if_icmp .ne 5, 3) := by decide +kernel
theorem dX2_fewestHands_98 : decode cX2_fewestHands 98 = .ok (.iload_n 3, 1) := by decide +kernel
theorem dX2_fewestHands_99 : decode cX2_fewestHands 99 = .ok (.ireturn, 1) := by decide +kernel
theorem dX2_fewestHands_100 : decode cX2_fewestHands 100 = .ok (.iinc 3 1, 3) := by decide +kernel
theorem dX2_fewestHands_103 : decode cX2_fewestHands 103 = .ok (.goto (-25), 3) := by decide +kernel
theorem dX2_fewestHands_106 : decode cX2_fewestHands 106 = .ok (.ldc 47, 2) := by decide +kernel
theorem dX2_fewestHands_108 : decode cX2_fewestHands 108 = .ok (.ireturn, 1) := by decide +kernel
theorem dX3_init_0 : decode cX3_init 0 = .ok (.aload_n 0, 1) := by decide +kernel
theorem dX3_init_1 : decode cX3_init 1 = .ok (.invokespecial 3, 3) := by decide +kernel
theorem dX3_init_4 : decode cX3_init 4 = .ok (.aload_n 0, 1) := by decide +kernel
theorem dX3_init_5 : decode cX3_init 5 = .ok (.bipush 40, 2) := by decide +kernel
theorem dX3_init_7 : decode cX3_init 7 = .ok (.newarray .int, 2) := by decide +kernel
theorem dX3_init_9 : decode cX3_init 9 = .ok (.putfield 9, 3) := by decide +kernel
theorem dX3_init_12 : decode cX3_init 12 = .ok (.aload_n 0, 1) := by decide +kernel
theorem dX3_init_13 : decode cX3_init 13 = .ok (.iconst (-1), 1) := by decide +kernel
theorem dX3_init_14 : decode cX3_init 14 = .ok (.putfield 15, 3) := by decide +kernel
theorem dX3_init_17 : decode cX3_init 17 = .ok (.return_, 1) := by decide +kernel
theorem dX3_begin_0 : decode cX3_begin 0 = .ok (.aload_n 0, 1) := by decide +kernel
theorem dX3_begin_1 : decode cX3_begin 1 = .ok (.iload_n 1, 1) := by decide +kernel
theorem dX3_begin_2 : decode cX3_begin 2 = .ok (.putfield 15, 3) := by decide +kernel
theorem dX3_begin_5 : decode cX3_begin 5 = .ok (.aload_n 0, 1) := by decide +kernel
theorem dX3_begin_6 : decode cX3_begin 6 = .ok (.iload_n 2, 1) := by decide +kernel
theorem dX3_begin_7 : decode cX3_begin 7 = .ok (.putfield 19, 3) := by decide +kernel
theorem dX3_begin_10 : decode cX3_begin 10 = .ok (.iconst 0, 1) := by decide +kernel
theorem dX3_begin_11 : decode cX3_begin 11 = .ok (.istore_n 3, 1) := by decide +kernel
theorem dX3_begin_12 : decode cX3_begin 12 = .ok (.iload_n 3, 1) := by decide +kernel
theorem dX3_begin_13 : decode cX3_begin 13 = .ok (.bipush 40, 2) := by decide +kernel
theorem dX3_begin_15 : decode cX3_begin 15 = .ok (.if_icmp .ge 16, 3) := by decide +kernel
theorem dX3_begin_18 : decode cX3_begin 18 = .ok (.aload_n 0, 1) := by decide +kernel
theorem dX3_begin_19 : decode cX3_begin 19 = .ok (.getfield 9, 3) := by decide +kernel
theorem dX3_begin_22 : decode cX3_begin 22 = .ok (.iload_n 3, 1) := by decide +kernel
theorem dX3_begin_23 : decode cX3_begin 23 = .ok (.iconst 0, 1) := by decide +kernel
theorem dX3_begin_24 : decode cX3_begin 24 = .ok (.iastore, 1) := by decide +kernel
theorem dX3_begin_25 : decode cX3_begin 25 = .ok (.iinc 3 1, 3) := by decide +kernel
theorem dX3_begin_28 : decode cX3_begin 28 = .ok (.goto (-16), 3) := by decide +kernel
theorem dX3_begin_31 : decode cX3_begin 31 = .ok (.return_, 1) := by decide +kernel
theorem dX3_narrowed_0 : decode cX3_narrowed 0 = .ok (.aload_n 0, 1) := by decide +kernel
theorem dX3_narrowed_1 : decode cX3_narrowed 1 = .ok (.getfield 15, 3) := by decide +kernel
theorem dX3_narrowed_4 : decode cX3_narrowed 4 = .ok (.lookupswitch 34 #[(0, 28), (1, 31)], 28) := by decide +kernel
theorem dX3_narrowed_32 : decode cX3_narrowed 32 = .ok (.iload_n 1, 1) := by decide +kernel
theorem dX3_narrowed_33 : decode cX3_narrowed 33 = .ok (.i2b, 1) := by decide +kernel
theorem dX3_narrowed_34 : decode cX3_narrowed 34 = .ok (.ireturn, 1) := by decide +kernel
theorem dX3_narrowed_35 : decode cX3_narrowed 35 = .ok (.iload_n 1, 1) := by decide +kernel
theorem dX3_narrowed_36 : decode cX3_narrowed 36 = .ok (.i2s, 1) := by decide +kernel
theorem dX3_narrowed_37 : decode cX3_narrowed 37 = .ok (.ireturn, 1) := by decide +kernel
theorem dX3_narrowed_38 : decode cX3_narrowed 38 = .ok (.iload_n 1, 1) := by decide +kernel
theorem dX3_narrowed_39 : decode cX3_narrowed 39 = .ok (.ireturn, 1) := by decide +kernel
theorem dX3_hasSpan_0 : decode cX3_hasSpan 0 = .ok (.iload_n 1, 1) := by decide +kernel
theorem dX3_hasSpan_1 : decode cX3_hasSpan 1 = .ok (.ifCond .lt 29, 3) := by decide +kernel
theorem dX3_hasSpan_4 : decode cX3_hasSpan 4 = .ok (.iload_n 2, 1) := by decide +kernel
theorem dX3_hasSpan_5 : decode cX3_hasSpan 5 = .ok (.ifCond .lt 25, 3) := by decide +kernel
theorem dX3_hasSpan_8 : decode cX3_hasSpan 8 = .ok (.iload_n 2, 1) := by decide +kernel
theorem dX3_hasSpan_9 : decode cX3_hasSpan 9 = .ok (.aload_n 0, 1) := by decide +kernel
theorem dX3_hasSpan_10 : decode cX3_hasSpan 10 = .ok (.getfield 19, 3) := by decide +kernel
theorem dX3_hasSpan_13 : decode cX3_hasSpan 13 = .ok (.if_icmp .gt 17, 3) := by decide +kernel
theorem dX3_hasSpan_16 : decode cX3_hasSpan 16 = .ok (.iload_n 1, 1) := by decide +kernel
theorem dX3_hasSpan_17 : decode cX3_hasSpan 17 = .ok (.aload_n 0, 1) := by decide +kernel
theorem dX3_hasSpan_18 : decode cX3_hasSpan 18 = .ok (.getfield 19, 3) := by decide +kernel
theorem dX3_hasSpan_21 : decode cX3_hasSpan 21 = .ok (.iload_n 2, 1) := by decide +kernel
theorem dX3_hasSpan_22 : decode cX3_hasSpan 22 = .ok (.isub, 1) := by decide +kernel
theorem dX3_hasSpan_23 : decode cX3_hasSpan 23 = .ok (.if_icmp .gt 7, 3) := by decide +kernel
theorem dX3_hasSpan_26 : decode cX3_hasSpan 26 = .ok (.iconst 1, 1) := by decide +kernel
theorem dX3_hasSpan_27 : decode cX3_hasSpan 27 = .ok (.goto 4, 3) := by decide +kernel
theorem dX3_hasSpan_30 : decode cX3_hasSpan 30 = .ok (.iconst 0, 1) := by decide +kernel
theorem dX3_hasSpan_31 : decode cX3_hasSpan 31 = .ok (.ireturn, 1) := by decide +kernel
theorem dX4_init_0 : decode cX4_init 0 = .ok (.aload_n 0, 1) := by decide +kernel
theorem dX4_init_1 : decode cX4_init 1 = .ok (.invokespecial 3, 3) := by decide +kernel
theorem dX4_init_4 : decode cX4_init 4 = .ok (.aload_n 0, 1) := by decide +kernel
theorem dX4_init_5 : decode cX4_init 5 = .ok (.bipush 120, 2) := by decide +kernel
theorem dX4_init_7 : decode cX4_init 7 = .ok (.newarray .int, 2) := by decide +kernel
theorem dX4_init_9 : decode cX4_init 9 = .ok (.putfield 9, 3) := by decide +kernel
theorem dX4_init_12 : decode cX4_init 12 = .ok (.return_, 1) := by decide +kernel
theorem dX4_readInto_0 : decode cX4_readInto 0 = .ok (.aload_n 0, 1) := by decide +kernel
theorem dX4_readInto_1 : decode cX4_readInto 1 = .ok (.iconst 0, 1) := by decide +kernel
theorem dX4_readInto_2 : decode cX4_readInto 2 = .ok (.putfield 15, 3) := by decide +kernel
theorem dX4_readInto_5 : decode cX4_readInto 5 = .ok (.aload_n 1, 1) := by decide +kernel
theorem dX4_readInto_6 : decode cX4_readInto 6 = .ok (.invokevirtual 19, 3) := by decide +kernel
theorem dX4_readInto_9 : decode cX4_readInto 9 = .ok (.aload_n 0, 1) := by decide +kernel
theorem dX4_readInto_10 : decode cX4_readInto 10 = .ok (.aload_n 1, 1) := by decide +kernel
theorem dX4_readInto_11 : decode cX4_readInto 11 = .ok (.invokevirtual 24, 3) := by decide +kernel
theorem dX4_readInto_14 : decode cX4_readInto 14 = .ok (.ifCond .ne 5, 3) := by decide +kernel
theorem dX4_readInto_17 : decode cX4_readInto 17 = .ok (.iconst 0, 1) := by decide +kernel
theorem dX4_readInto_18 : decode cX4_readInto 18 = .ok (.ireturn, 1) := by decide +kernel
theorem dX4_readInto_19 : decode cX4_readInto 19 = .ok (.iconst 0, 1) := by decide +kernel
theorem dX4_readInto_20 : decode cX4_readInto 20 = .ok (.istore_n 2, 1) := by decide +kernel
theorem dX4_readInto_21 : decode cX4_readInto 21 = .ok (.iload_n 2, 1) := by decide +kernel
theorem dX4_readInto_22 : decode cX4_readInto 22 = .ok (.bipush 6, 2) := by decide +kernel
theorem dX4_readInto_24 : decode cX4_readInto 24 = .ok (.if_icmp .gt 30, 3) := by decide +kernel
theorem dX4_readInto_27 : decode cX4_readInto 27 = .ok (.aload_n 0, 1) := by decide +kernel
theorem dX4_readInto_28 : decode cX4_readInto 28 = .ok (.getfield 15, 3) := by decide +kernel
theorem dX4_readInto_31 : decode cX4_readInto 31 = .ok (.aload_n 0, 1) := by decide +kernel
theorem dX4_readInto_32 : decode cX4_readInto 32 = .ok (.getfield 28, 3) := by decide +kernel
theorem dX4_readInto_35 : decode cX4_readInto 35 = .ok (.if_icmp .ge 19, 3) := by decide +kernel
theorem dX4_readInto_38 : decode cX4_readInto 38 = .ok (.aload_n 0, 1) := by decide +kernel
theorem dX4_readInto_39 : decode cX4_readInto 39 = .ok (.aload_n 1, 1) := by decide +kernel
theorem dX4_readInto_40 : decode cX4_readInto 40 = .ok (.invokevirtual 31, 3) := by decide +kernel
theorem dX4_readInto_43 : decode cX4_readInto 43 = .ok (.ifCond .ne 5, 3) := by decide +kernel
theorem dX4_readInto_46 : decode cX4_readInto 46 = .ok (.iconst 0, 1) := by decide +kernel
theorem dX4_readInto_47 : decode cX4_readInto 47 = .ok (.ireturn, 1) := by decide +kernel
theorem dX4_readInto_48 : decode cX4_readInto 48 = .ok (.iinc 2 1, 3) := by decide +kernel
theorem dX4_readInto_51 : decode cX4_readInto 51 = .ok (.goto (-30), 3) := by decide +kernel
theorem dX4_readInto_54 : decode cX4_readInto 54 = .ok (.iconst 1, 1) := by decide +kernel
theorem dX4_readInto_55 : decode cX4_readInto 55 = .ok (.ireturn, 1) := by decide +kernel
theorem dX4_readLaw_0 : decode cX4_readLaw 0 = .ok (.aload_n 0, 1) := by decide +kernel
theorem dX4_readLaw_1 : decode cX4_readLaw 1 = .ok (.bipush 116, 2) := by decide +kernel
theorem dX4_readLaw_3 : decode cX4_readLaw 3 = .ok (.invokevirtual 34, 3) := by decide +kernel
theorem dX4_readLaw_6 : decode cX4_readLaw 6 = .ok (.ifCond .ne 5, 3) := by decide +kernel
theorem dX4_readLaw_9 : decode cX4_readLaw 9 = .ok (.iconst 0, 1) := by decide +kernel
theorem dX4_readLaw_10 : decode cX4_readLaw 10 = .ok (.ireturn, 1) := by decide +kernel
theorem dX4_readLaw_11 : decode cX4_readLaw 11 = .ok (.aload_n 1, 1) := by decide +kernel
theorem dX4_readLaw_12 : decode cX4_readLaw 12 = .ok (.aload_n 0, 1) := by decide +kernel
theorem dX4_readLaw_13 : decode cX4_readLaw 13 = .ok (.iconst 0, 1) := by decide +kernel
theorem dX4_readLaw_14 : decode cX4_readLaw 14 = .ok (.bipush 40, 2) := by decide +kernel
theorem dX4_readLaw_16 : decode cX4_readLaw 16 = .ok (.invokevirtual 38, 3) := by decide +kernel
theorem dX4_readLaw_19 : decode cX4_readLaw 19 = .ok (.putfield 42, 3) := by decide +kernel
theorem dX4_readLaw_22 : decode cX4_readLaw 22 = .ok (.aload_n 1, 1) := by decide +kernel
theorem dX4_readLaw_23 : decode cX4_readLaw 23 = .ok (.getfield 42, 3) := by decide +kernel
theorem dX4_readLaw_26 : decode cX4_readLaw 26 = .ok (.ifCond .lt 12, 3) := by decide +kernel
theorem dX4_readLaw_29 : decode cX4_readLaw 29 = .ok (.aload_n 0, 1) := by decide +kernel
theorem dX4_readLaw_30 : decode cX4_readLaw 30 = .ok (.bipush 44, 2) := by decide +kernel
theorem dX4_readLaw_32 : decode cX4_readLaw 32 = .ok (.invokevirtual 34, 3) := by decide +kernel
theorem dX4_readLaw_35 : decode cX4_readLaw 35 = .ok (.ifCond .ne 5, 3) := by decide +kernel
theorem dX4_readLaw_38 : decode cX4_readLaw 38 = .ok (.iconst 0, 1) := by decide +kernel
theorem dX4_readLaw_39 : decode cX4_readLaw 39 = .ok (.ireturn, 1) := by decide +kernel
theorem dX4_readLaw_40 : decode cX4_readLaw 40 = .ok (.aload_n 1, 1) := by decide +kernel
theorem dX4_readLaw_41 : decode cX4_readLaw 41 = .ok (.aload_n 0, 1) := by decide +kernel
theorem dX4_readLaw_42 : decode cX4_readLaw 42 = .ok (.iconst 0, 1) := by decide +kernel
theorem dX4_readLaw_43 : decode cX4_readLaw 43 = .ok (.iconst 5, 1) := by decide +kernel
theorem dX4_readLaw_44 : decode cX4_readLaw 44 = .ok (.invokevirtual 38, 3) := by decide +kernel
theorem dX4_readLaw_47 : decode cX4_readLaw 47 = .ok (.putfield 45, 3) := by decide +kernel
theorem dX4_readLaw_50 : decode cX4_readLaw 50 = .ok (.aload_n 1, 1) := by decide +kernel
theorem dX4_readLaw_51 : decode cX4_readLaw 51 = .ok (.getfield 45, 3) := by decide +kernel
theorem dX4_readLaw_54 : decode cX4_readLaw 54 = .ok (.ifCond .lt 16, 3) := by decide +kernel
theorem dX4_readLaw_57 : decode cX4_readLaw 57 = .ok (.aload_n 0, 1) := by decide +kernel
theorem dX4_readLaw_58 : decode cX4_readLaw 58 = .ok (.bipush 59, 2) := by decide +kernel
theorem dX4_readLaw_60 : decode cX4_readLaw 60 = .ok (.invokevirtual 34, 3) := by decide +kernel
theorem dX4_readLaw_63 : decode cX4_readLaw 63 = .ok (.ifCond .eq 7, 3) := by decide +kernel
theorem dX4_readLaw_66 : decode cX4_readLaw 66 = .ok (.iconst 1, 1) := by decide +kernel
theorem dX4_readLaw_67 : decode cX4_readLaw 67 = .ok (.goto 4, 3) := by decide +kernel
theorem dX4_readLaw_70 : decode cX4_readLaw 70 = .ok (.iconst 0, 1) := by decide +kernel
theorem dX4_readLaw_71 : decode cX4_readLaw 71 = .ok (.ireturn, 1) := by decide +kernel
theorem dX4_readHammock_0 : decode cX4_readHammock 0 = .ok (.aload_n 1, 1) := by decide +kernel
theorem dX4_readHammock_1 : decode cX4_readHammock 1 = .ok (.getfield 48, 3) := by decide +kernel
theorem dX4_readHammock_4 : decode cX4_readHammock 4 = .ok (.istore_n 2, 1) := by decide +kernel
theorem dX4_readHammock_5 : decode cX4_readHammock 5 = .ok (.aload_n 0, 1) := by decide +kernel
theorem dX4_readHammock_6 : decode cX4_readHammock 6 = .ok (.aload_n 0, 1) := by decide +kernel
theorem dX4_readHammock_7 : decode cX4_readHammock 7 = .ok (.getfield 15, 3) := by decide +kernel
theorem dX4_readHammock_10 : decode cX4_readHammock 10 = .ok (.invokevirtual 51, 3) := by decide +kernel
theorem dX4_readHammock_13 : decode cX4_readHammock 13 = .ok (.invokestatic 55, 3) := by decide +kernel
theorem dX4_readHammock_16 : decode cX4_readHammock 16 = .ok (.istore_n 3, 1) := by decide +kernel
theorem dX4_readHammock_17 : decode cX4_readHammock 17 = .ok (.iload_n 3, 1) := by decide +kernel
theorem dX4_readHammock_18 : decode cX4_readHammock 18 = .ok (.ifCond .ne 9, 3) := by decide +kernel
theorem dX4_readHammock_21 : decode cX4_readHammock 21 = .ok (.aload_n 0, 1) := by decide +kernel
theorem dX4_readHammock_22 : decode cX4_readHammock 22 = .ok (.iconst 1, 1) := by decide +kernel
theorem dX4_readHammock_23 : decode cX4_readHammock 23 = .ok (.invokevirtual 58, 3) := by decide +kernel
theorem dX4_readHammock_26 : decode cX4_readHammock 26 = .ok (.ireturn, 1) := by decide +kernel
theorem dX4_readHammock_27 : decode cX4_readHammock 27 = .ok (.iload_n 2, 1) := by decide +kernel
theorem dX4_readHammock_28 : decode cX4_readHammock 28 = .ok (.bipush 6, 2) := by decide +kernel
theorem dX4_readHammock_30 : decode cX4_readHammock 30 = .ok (.if_icmp .lt 9, 3) := by decide +kernel
theorem dX4_readHammock_33 : decode cX4_readHammock 33 = .ok (.aload_n 0, 1) := by decide +kernel
theorem dX4_readHammock_34 : decode cX4_readHammock 34 = .ok (.iconst 3, 1) := by decide +kernel
theorem dX4_readHammock_35 : decode cX4_readHammock 35 = .ok (.invokevirtual 58, 3) := by decide +kernel
theorem dX4_readHammock_38 : decode cX4_readHammock 38 = .ok (.ireturn, 1) := by decide +kernel
theorem dX4_readHammock_39 : decode cX4_readHammock 39 = .ok (.aload_n 0, 1) := by decide +kernel
theorem dX4_readHammock_40 : decode cX4_readHammock 40 = .ok (.dup, 1) := by decide +kernel
theorem dX4_readHammock_41 : decode cX4_readHammock 41 = .ok (.getfield 15, 3) := by decide +kernel
theorem dX4_readHammock_44 : decode cX4_readHammock 44 = .ok (.iconst 1, 1) := by decide +kernel
theorem dX4_readHammock_45 : decode cX4_readHammock 45 = .ok (.iadd, 1) := by decide +kernel
theorem dX4_readHammock_46 : decode cX4_readHammock 46 = .ok (.putfield 15, 3) := by decide +kernel
theorem dX4_readHammock_49 : decode cX4_readHammock 49 = .ok (.aload_n 1, 1) := by decide +kernel
theorem dX4_readHammock_50 : decode cX4_readHammock 50 = .ok (.getfield 61, 3) := by decide +kernel
theorem dX4_readHammock_53 : decode cX4_readHammock 53 = .ok (.iload_n 2, 1) := by decide +kernel
theorem dX4_readHammock_54 : decode cX4_readHammock 54 = .ok (.iload_n 3, 1) := by decide +kernel
theorem dX4_readHammock_55 : decode cX4_readHammock 55 = .ok (.iastore, 1) := by decide +kernel
theorem dX4_readHammock_56 : decode cX4_readHammock 56 = .ok (.aload_n 1, 1) := by decide +kernel
theorem dX4_readHammock_57 : decode cX4_readHammock 57 = .ok (.iload_n 2, 1) := by decide +kernel
theorem dX4_readHammock_58 : decode cX4_readHammock 58 = .ok (.iconst 1, 1) := by decide +kernel
theorem dX4_readHammock_59 : decode cX4_readHammock 59 = .ok (.iadd, 1) := by decide +kernel
theorem dX4_readHammock_60 : decode cX4_readHammock 60 = .ok (.putfield 48, 3) := by decide +kernel
theorem dX4_readHammock_63 : decode cX4_readHammock 63 = .ok (.aload_n 0, 1) := by decide +kernel
theorem dX4_readHammock_64 : decode cX4_readHammock 64 = .ok (.aload_n 1, 1) := by decide +kernel
theorem dX4_readHammock_65 : decode cX4_readHammock 65 = .ok (.iload_n 2, 1) := by decide +kernel
theorem dX4_readHammock_66 : decode cX4_readHammock 66 = .ok (.invokevirtual 64, 3) := by decide +kernel
theorem dX4_readHammock_69 : decode cX4_readHammock 69 = .ok (.ifCond .eq 16, 3) := by decide +kernel
theorem dX4_readHammock_72 : decode cX4_readHammock 72 = .ok (.aload_n 0, 1) := by decide +kernel
theorem dX4_readHammock_73 : decode cX4_readHammock 73 = .ok (.aload_n 1, 1) := by decide +kernel
theorem dX4_readHammock_74 : decode cX4_readHammock 74 = .ok (.iload_n 2, 1) := by decide +kernel
theorem dX4_readHammock_75 : decode cX4_readHammock 75 = .ok (.invokevirtual 68, 3) := by decide +kernel
theorem dX4_readHammock_78 : decode cX4_readHammock 78 = .ok (.ifCond .eq 7, 3) := by decide +kernel
theorem dX4_readHammock_81 : decode cX4_readHammock 81 = .ok (.iconst 1, 1) := by decide +kernel
theorem dX4_readHammock_82 : decode cX4_readHammock 82 = .ok (.goto 4, 3) := by decide +kernel
theorem dX4_readHammock_85 : decode cX4_readHammock 85 = .ok (.iconst 0, 1) := by decide +kernel
theorem dX4_readHammock_86 : decode cX4_readHammock 86 = .ok (.ireturn, 1) := by decide +kernel
theorem dX4_readTrees_0 : decode cX4_readTrees 0 = .ok (.aload_n 1, 1) := by decide +kernel
theorem dX4_readTrees_1 : decode cX4_readTrees 1 = .ok (.getfield 71, 3) := by decide +kernel
theorem dX4_readTrees_4 : decode cX4_readTrees 4 = .ok (.iload_n 2, 1) := by decide +kernel
theorem dX4_readTrees_5 : decode cX4_readTrees 5 = .ok (.aload_n 0, 1) := by decide +kernel
theorem dX4_readTrees_6 : decode cX4_readTrees 6 = .ok (.iconst 0, 1) := by decide +kernel
theorem dX4_readTrees_7 : decode cX4_readTrees 7 = .ok (.bipush 11, 2) := by decide +kernel
theorem dX4_readTrees_9 : decode cX4_readTrees 9 = .ok (.invokevirtual 38, 3) := by decide +kernel
theorem dX4_readTrees_12 : decode cX4_readTrees 12 = .ok (.iastore, 1) := by decide +kernel
theorem dX4_readTrees_13 : decode cX4_readTrees 13 = .ok (.aload_n 1, 1) := by decide +kernel
theorem dX4_readTrees_14 : decode cX4_readTrees 14 = .ok (.getfield 71, 3) := by decide +kernel
theorem dX4_readTrees_17 : decode cX4_readTrees 17 = .ok (.iload_n 2, 1) := by decide +kernel
theorem dX4_readTrees_18 : decode cX4_readTrees 18 = .ok (.iaload, 1) := by decide +kernel
theorem dX4_readTrees_19 : decode cX4_readTrees 19 = .ok (.ifCond .lt 12, 3) := by decide +kernel
theorem dX4_readTrees_22 : decode cX4_readTrees 22 = .ok (.aload_n 0, 1) := by decide +kernel
theorem dX4_readTrees_23 : decode cX4_readTrees 23 = .ok (.bipush 44, 2) := by decide +kernel
theorem dX4_readTrees_25 : decode cX4_readTrees 25 = .ok (.invokevirtual 34, 3) := by decide +kernel
theorem dX4_readTrees_28 : decode cX4_readTrees 28 = .ok (.ifCond .ne 5, 3) := by decide +kernel
theorem dX4_readTrees_31 : decode cX4_readTrees 31 = .ok (.iconst 0, 1) := by decide +kernel
theorem dX4_readTrees_32 : decode cX4_readTrees 32 = .ok (.ireturn, 1) := by decide +kernel
theorem dX4_readTrees_33 : decode cX4_readTrees 33 = .ok (.aload_n 1, 1) := by decide +kernel
theorem dX4_readTrees_34 : decode cX4_readTrees 34 = .ok (.getfield 74, 3) := by decide +kernel
theorem dX4_readTrees_37 : decode cX4_readTrees 37 = .ok (.iload_n 2, 1) := by decide +kernel
theorem dX4_readTrees_38 : decode cX4_readTrees 38 = .ok (.aload_n 0, 1) := by decide +kernel
theorem dX4_readTrees_39 : decode cX4_readTrees 39 = .ok (.aload_n 1, 1) := by decide +kernel
theorem dX4_readTrees_40 : decode cX4_readTrees 40 = .ok (.getfield 71, 3) := by decide +kernel
theorem dX4_readTrees_43 : decode cX4_readTrees 43 = .ok (.iload_n 2, 1) := by decide +kernel
theorem dX4_readTrees_44 : decode cX4_readTrees 44 = .ok (.iaload, 1) := by decide +kernel
theorem dX4_readTrees_45 : decode cX4_readTrees 45 = .ok (.iconst 1, 1) := by decide +kernel
theorem dX4_readTrees_46 : decode cX4_readTrees 46 = .ok (.iadd, 1) := by decide +kernel
theorem dX4_readTrees_47 : decode cX4_readTrees 47 = .ok (.bipush 11, 2) := by decide +kernel
theorem dX4_readTrees_49 : decode cX4_readTrees 49 = .ok (.invokevirtual 38, 3) := by decide +kernel
theorem dX4_readTrees_52 : decode cX4_readTrees 52 = .ok (.iastore, 1) := by decide +kernel
theorem dX4_readTrees_53 : decode cX4_readTrees 53 = .ok (.aload_n 1, 1) := by decide +kernel
theorem dX4_readTrees_54 : decode cX4_readTrees 54 = .ok (.getfield 74, 3) := by decide +kernel
theorem dX4_readTrees_57 : decode cX4_readTrees 57 = .ok (.iload_n 2, 1) := by decide +kernel
theorem dX4_readTrees_58 : decode cX4_readTrees 58 = .ok (.iaload, 1) := by decide +kernel
theorem dX4_readTrees_59 : decode cX4_readTrees 59 = .ok (.ifCond .lt 16, 3) := by decide +kernel
theorem dX4_readTrees_62 : decode cX4_readTrees 62 = .ok (.aload_n 0, 1) := by decide +kernel
theorem dX4_readTrees_63 : decode cX4_readTrees 63 = .ok (.bipush 44, 2) := by decide +kernel
theorem dX4_readTrees_65 : decode cX4_readTrees 65 = .ok (.invokevirtual 34, 3) := by decide +kernel
theorem dX4_readTrees_68 : decode cX4_readTrees 68 = .ok (.ifCond .eq 7, 3) := by decide +kernel
theorem dX4_readTrees_71 : decode cX4_readTrees 71 = .ok (.iconst 1, 1) := by decide +kernel
theorem dX4_readTrees_72 : decode cX4_readTrees 72 = .ok (.goto 4, 3) := by decide +kernel
theorem dX4_readTrees_75 : decode cX4_readTrees 75 = .ok (.iconst 0, 1) := by decide +kernel
theorem dX4_readTrees_76 : decode cX4_readTrees 76 = .ok (.ireturn, 1) := by decide +kernel
theorem dX4_readLoad_0 : decode cX4_readLoad 0 = .ok (.aload_n 1, 1) := by decide +kernel
theorem dX4_readLoad_1 : decode cX4_readLoad 1 = .ok (.getfield 77, 3) := by decide +kernel
theorem dX4_readLoad_4 : decode cX4_readLoad 4 = .ok (.iload_n 2, 1) := by decide +kernel
theorem dX4_readLoad_5 : decode cX4_readLoad 5 = .ok (.aload_n 0, 1) := by decide +kernel
theorem dX4_readLoad_6 : decode cX4_readLoad 6 = .ok (.iconst 1, 1) := by decide +kernel
theorem dX4_readLoad_7 : decode cX4_readLoad 7 = .ok (.bipush 20, 2) := by decide +kernel
theorem dX4_readLoad_9 : decode cX4_readLoad 9 = .ok (.invokevirtual 38, 3) := by decide +kernel
theorem dX4_readLoad_12 : decode cX4_readLoad 12 = .ok (.iastore, 1) := by decide +kernel
theorem dX4_readLoad_13 : decode cX4_readLoad 13 = .ok (.aload_n 1, 1) := by decide +kernel
theorem dX4_readLoad_14 : decode cX4_readLoad 14 = .ok (.getfield 77, 3) := by decide +kernel
theorem dX4_readLoad_17 : decode cX4_readLoad 17 = .ok (.iload_n 2, 1) := by decide +kernel
theorem dX4_readLoad_18 : decode cX4_readLoad 18 = .ok (.iaload, 1) := by decide +kernel
theorem dX4_readLoad_19 : decode cX4_readLoad 19 = .ok (.ifCond .lt 12, 3) := by decide +kernel
theorem dX4_readLoad_22 : decode cX4_readLoad 22 = .ok (.aload_n 0, 1) := by decide +kernel
theorem dX4_readLoad_23 : decode cX4_readLoad 23 = .ok (.bipush 44, 2) := by decide +kernel
theorem dX4_readLoad_25 : decode cX4_readLoad 25 = .ok (.invokevirtual 34, 3) := by decide +kernel
theorem dX4_readLoad_28 : decode cX4_readLoad 28 = .ok (.ifCond .ne 5, 3) := by decide +kernel
theorem dX4_readLoad_31 : decode cX4_readLoad 31 = .ok (.iconst 0, 1) := by decide +kernel
theorem dX4_readLoad_32 : decode cX4_readLoad 32 = .ok (.ireturn, 1) := by decide +kernel
theorem dX4_readLoad_33 : decode cX4_readLoad 33 = .ok (.aload_n 1, 1) := by decide +kernel
theorem dX4_readLoad_34 : decode cX4_readLoad 34 = .ok (.getfield 80, 3) := by decide +kernel
theorem dX4_readLoad_37 : decode cX4_readLoad 37 = .ok (.iload_n 2, 1) := by decide +kernel
theorem dX4_readLoad_38 : decode cX4_readLoad 38 = .ok (.aload_n 0, 1) := by decide +kernel
theorem dX4_readLoad_39 : decode cX4_readLoad 39 = .ok (.iconst 0, 1) := by decide +kernel
theorem dX4_readLoad_40 : decode cX4_readLoad 40 = .ok (.iconst 5, 1) := by decide +kernel
theorem dX4_readLoad_41 : decode cX4_readLoad 41 = .ok (.invokevirtual 38, 3) := by decide +kernel
theorem dX4_readLoad_44 : decode cX4_readLoad 44 = .ok (.iastore, 1) := by decide +kernel
theorem dX4_readLoad_45 : decode cX4_readLoad 45 = .ok (.aload_n 1, 1) := by decide +kernel
theorem dX4_readLoad_46 : decode cX4_readLoad 46 = .ok (.getfield 80, 3) := by decide +kernel
theorem dX4_readLoad_49 : decode cX4_readLoad 49 = .ok (.iload_n 2, 1) := by decide +kernel
theorem dX4_readLoad_50 : decode cX4_readLoad 50 = .ok (.iaload, 1) := by decide +kernel
theorem dX4_readLoad_51 : decode cX4_readLoad 51 = .ok (.ifCond .lt 16, 3) := by decide +kernel
theorem dX4_readLoad_54 : decode cX4_readLoad 54 = .ok (.aload_n 0, 1) := by decide +kernel
theorem dX4_readLoad_55 : decode cX4_readLoad 55 = .ok (.bipush 59, 2) := by decide +kernel
theorem dX4_readLoad_57 : decode cX4_readLoad 57 = .ok (.invokevirtual 34, 3) := by decide +kernel
theorem dX4_readLoad_60 : decode cX4_readLoad 60 = .ok (.ifCond .eq 7, 3) := by decide +kernel
theorem dX4_readLoad_63 : decode cX4_readLoad 63 = .ok (.iconst 1, 1) := by decide +kernel
theorem dX4_readLoad_64 : decode cX4_readLoad 64 = .ok (.goto 4, 3) := by decide +kernel
theorem dX4_readLoad_67 : decode cX4_readLoad 67 = .ok (.iconst 0, 1) := by decide +kernel
theorem dX4_readLoad_68 : decode cX4_readLoad 68 = .ok (.ireturn, 1) := by decide +kernel
theorem dX4_readSign_0 : decode cX4_readSign 0 = .ok (.aload_n 0, 1) := by decide +kernel
theorem dX4_readSign_1 : decode cX4_readSign 1 = .ok (.aload_n 0, 1) := by decide +kernel
theorem dX4_readSign_2 : decode cX4_readSign 2 = .ok (.getfield 15, 3) := by decide +kernel
theorem dX4_readSign_5 : decode cX4_readSign 5 = .ok (.invokevirtual 51, 3) := by decide +kernel
theorem dX4_readSign_8 : decode cX4_readSign 8 = .ok (.iload_n 1, 1) := by decide +kernel
theorem dX4_readSign_9 : decode cX4_readSign 9 = .ok (.if_icmp .eq 9, 3) := by decide +kernel
theorem dX4_readSign_12 : decode cX4_readSign 12 = .ok (.aload_n 0, 1) := by decide +kernel
theorem dX4_readSign_13 : decode cX4_readSign 13 = .ok (.iconst 1, 1) := by decide +kernel
theorem dX4_readSign_14 : decode cX4_readSign 14 = .ok (.invokevirtual 58, 3) := by decide +kernel
theorem dX4_readSign_17 : decode cX4_readSign 17 = .ok (.ireturn, 1) := by decide +kernel
theorem dX4_readSign_18 : decode cX4_readSign 18 = .ok (.aload_n 0, 1) := by decide +kernel
theorem dX4_readSign_19 : decode cX4_readSign 19 = .ok (.dup, 1) := by decide +kernel
theorem dX4_readSign_20 : decode cX4_readSign 20 = .ok (.getfield 15, 3) := by decide +kernel
theorem dX4_readSign_23 : decode cX4_readSign 23 = .ok (.iconst 1, 1) := by decide +kernel
theorem dX4_readSign_24 : decode cX4_readSign 24 = .ok (.iadd, 1) := by decide +kernel
theorem dX4_readSign_25 : decode cX4_readSign 25 = .ok (.putfield 15, 3) := by decide +kernel
theorem dX4_readSign_28 : decode cX4_readSign 28 = .ok (.iconst 1, 1) := by decide +kernel
theorem dX4_readSign_29 : decode cX4_readSign 29 = .ok (.ireturn, 1) := by decide +kernel
theorem dX4_readNumber_0 : decode cX4_readNumber 0 = .ok (.iconst 0, 1) := by decide +kernel
theorem dX4_readNumber_1 : decode cX4_readNumber 1 = .ok (.istore_n 3, 1) := by decide +kernel
theorem dX4_readNumber_2 : decode cX4_readNumber 2 = .ok (.iconst 0, 1) := by decide +kernel
theorem dX4_readNumber_3 : decode cX4_readNumber 3 = .ok (.istore 4, 2) := by decide +kernel
theorem dX4_readNumber_5 : decode cX4_readNumber 5 = .ok (.aload_n 0, 1) := by decide +kernel
theorem dX4_readNumber_6 : decode cX4_readNumber 6 = .ok (.getfield 15, 3) := by decide +kernel
theorem dX4_readNumber_9 : decode cX4_readNumber 9 = .ok (.istore 5, 2) := by decide +kernel
theorem dX4_readNumber_11 : decode cX4_readNumber 11 = .ok (.iload 5, 2) := by decide +kernel
theorem dX4_readNumber_13 : decode cX4_readNumber 13 = .ok (.aload_n 0, 1) := by decide +kernel
theorem dX4_readNumber_14 : decode cX4_readNumber 14 = .ok (.getfield 28, 3) := by decide +kernel
theorem dX4_readNumber_17 : decode cX4_readNumber 17 = .ok (.if_icmp .ge 45, 3) := by decide +kernel
theorem dX4_readNumber_20 : decode cX4_readNumber 20 = .ok (.aload_n 0, 1) := by decide +kernel
theorem dX4_readNumber_21 : decode cX4_readNumber 21 = .ok (.iload 5, 2) := by decide +kernel
theorem dX4_readNumber_23 : decode cX4_readNumber 23 = .ok (.invokevirtual 51, 3) := by decide +kernel
theorem dX4_readNumber_26 : decode cX4_readNumber 26 = .ok (.invokestatic 83, 3) := by decide +kernel
theorem dX4_readNumber_29 : decode cX4_readNumber 29 = .ok (.ifCond .eq 33, 3) := by decide +kernel
theorem dX4_readNumber_32 : decode cX4_readNumber 32 = .ok (.iload 4, 2) := by decide +kernel
theorem dX4_readNumber_34 : decode cX4_readNumber 34 = .ok (.iconst 3, 1) := by decide +kernel
theorem dX4_readNumber_35 : decode cX4_readNumber 35 = .ok (.if_icmp .ge 27, 3) := by decide +kernel
theorem dX4_readNumber_38 : decode cX4_readNumber 38 = .ok (.bipush 10, 2) := by decide +kernel
theorem dX4_readNumber_40 : decode cX4_readNumber 40 = .ok (.iload_n 3, 1) := by decide +kernel
theorem dX4_readNumber_41 : decode cX4_readNumber 41 = .ok (.imul, 1) := by decide +kernel
theorem dX4_readNumber_42 : decode cX4_readNumber 42 = .ok (.aload_n 0, 1) := by decide +kernel
theorem dX4_readNumber_43 : decode cX4_readNumber 43 = .ok (.iload 5, 2) := by decide +kernel
theorem dX4_readNumber_45 : decode cX4_readNumber 45 = .ok (.invokevirtual 51, 3) := by decide +kernel
theorem dX4_readNumber_48 : decode cX4_readNumber 48 = .ok (.iadd, 1) := by decide +kernel
theorem dX4_readNumber_49 : decode cX4_readNumber 49 = .ok (.bipush 48, 2) := by decide +kernel
theorem dX4_readNumber_51 : decode cX4_readNumber 51 = .ok (.isub, 1) := by decide +kernel
theorem dX4_readNumber_52 : decode cX4_readNumber 52 = .ok (.istore_n 3, 1) := by decide +kernel
theorem dX4_readNumber_53 : decode cX4_readNumber 53 = .ok (.iinc 4 1, 3) := by decide +kernel
theorem dX4_readNumber_56 : decode cX4_readNumber 56 = .ok (.iinc 5 1, 3) := by decide +kernel
theorem dX4_readNumber_59 : decode cX4_readNumber 59 = .ok (.goto (-48), 3) := by decide +kernel
theorem dX4_readNumber_62 : decode cX4_readNumber 62 = .ok (.iload 4, 2) := by decide +kernel
theorem dX4_readNumber_64 : decode cX4_readNumber 64 = .ok (.ifCond .eq 9, 3) := by decide +kernel
theorem dX4_readNumber_67 : decode cX4_readNumber 67 = .ok (.iload 4, 2) := by decide +kernel
theorem dX4_readNumber_69 : decode cX4_readNumber 69 = .ok (.iconst 3, 1) := by decide +kernel
theorem dX4_readNumber_70 : decode cX4_readNumber 70 = .ok (.if_icmp .ne 11, 3) := by decide +kernel
theorem dX4_readNumber_73 : decode cX4_readNumber 73 = .ok (.aload_n 0, 1) := by decide +kernel
theorem dX4_readNumber_74 : decode cX4_readNumber 74 = .ok (.iconst 1, 1) := by decide +kernel
theorem dX4_readNumber_75 : decode cX4_readNumber 75 = .ok (.invokevirtual 58, 3) := by decide +kernel
theorem dX4_readNumber_78 : decode cX4_readNumber 78 = .ok (.pop, 1) := by decide +kernel
theorem dX4_readNumber_79 : decode cX4_readNumber 79 = .ok (.iconst (-1), 1) := by decide +kernel
theorem dX4_readNumber_80 : decode cX4_readNumber 80 = .ok (.ireturn, 1) := by decide +kernel
theorem dX4_readNumber_81 : decode cX4_readNumber 81 = .ok (.iload_n 3, 1) := by decide +kernel
theorem dX4_readNumber_82 : decode cX4_readNumber 82 = .ok (.iload_n 1, 1) := by decide +kernel
theorem dX4_readNumber_83 : decode cX4_readNumber 83 = .ok (.if_icmp .lt 8, 3) := by decide +kernel
theorem dX4_readNumber_86 : decode cX4_readNumber 86 = .ok (.iload_n 3, 1) := by decide +kernel
theorem dX4_readNumber_87 : decode cX4_readNumber 87 = .ok (.iload_n 2, 1) := by decide +kernel
theorem dX4_readNumber_88 : decode cX4_readNumber 88 = .ok (.if_icmp .le 11, 3) := by decide +kernel
theorem dX4_readNumber_91 : decode cX4_readNumber 91 = .ok (.aload_n 0, 1) := by decide +kernel
theorem dX4_readNumber_92 : decode cX4_readNumber 92 = .ok (.iconst 2, 1) := by decide +kernel
theorem dX4_readNumber_93 : decode cX4_readNumber 93 = .ok (.invokevirtual 58, 3) := by decide +kernel
theorem dX4_readNumber_96 : decode cX4_readNumber 96 = .ok (.pop, 1) := by decide +kernel
theorem dX4_readNumber_97 : decode cX4_readNumber 97 = .ok (.iconst (-1), 1) := by decide +kernel
theorem dX4_readNumber_98 : decode cX4_readNumber 98 = .ok (.ireturn, 1) := by decide +kernel
theorem dX4_readNumber_99 : decode cX4_readNumber 99 = .ok (.aload_n 0, 1) := by decide +kernel
theorem dX4_readNumber_100 : decode cX4_readNumber 100 = .ok (.dup, 1) := by decide +kernel
theorem dX4_readNumber_101 : decode cX4_readNumber 101 = .ok (.getfield 15, 3) := by decide +kernel
theorem dX4_readNumber_104 : decode cX4_readNumber 104 = .ok (.iload 4, 2) := by decide +kernel
theorem dX4_readNumber_106 : decode cX4_readNumber 106 = .ok (.iadd, 1) := by decide +kernel
theorem dX4_readNumber_107 : decode cX4_readNumber 107 = .ok (.putfield 15, 3) := by decide +kernel
theorem dX4_readNumber_110 : decode cX4_readNumber 110 = .ok (.iload_n 3, 1) := by decide +kernel
theorem dX4_readNumber_111 : decode cX4_readNumber 111 = .ok (.ireturn, 1) := by decide +kernel
theorem dX4_refuse_0 : decode cX4_refuse 0 = .ok (.aload_n 0, 1) := by decide +kernel
theorem dX4_refuse_1 : decode cX4_refuse 1 = .ok (.iload_n 1, 1) := by decide +kernel
theorem dX4_refuse_2 : decode cX4_refuse 2 = .ok (.putfield 86, 3) := by decide +kernel
theorem dX4_refuse_5 : decode cX4_refuse 5 = .ok (.iconst 0, 1) := by decide +kernel
theorem dX4_refuse_6 : decode cX4_refuse 6 = .ok (.ireturn, 1) := by decide +kernel
theorem dX4_byteAt_0 : decode cX4_byteAt 0 = .ok (.iload_n 1, 1) := by decide +kernel
theorem dX4_byteAt_1 : decode cX4_byteAt 1 = .ok (.aload_n 0, 1) := by decide +kernel
theorem dX4_byteAt_2 : decode cX4_byteAt 2 = .ok (.getfield 28, 3) := by decide +kernel
theorem dX4_byteAt_5 : decode cX4_byteAt 5 = .ok (.invokestatic 89, 3) := by decide +kernel
theorem dX4_byteAt_8 : decode cX4_byteAt 8 = .ok (.ifCond .eq 12, 3) := by decide +kernel
theorem dX4_byteAt_11 : decode cX4_byteAt 11 = .ok (.aload_n 0, 1) := by decide +kernel
theorem dX4_byteAt_12 : decode cX4_byteAt 12 = .ok (.getfield 9, 3) := by decide +kernel
theorem dX4_byteAt_15 : decode cX4_byteAt 15 = .ok (.iload_n 1, 1) := by decide +kernel
theorem dX4_byteAt_16 : decode cX4_byteAt 16 = .ok (.iaload, 1) := by decide +kernel
theorem dX4_byteAt_17 : decode cX4_byteAt 17 = .ok (.goto 4, 3) := by decide +kernel
theorem dX4_byteAt_20 : decode cX4_byteAt 20 = .ok (.iconst (-1), 1) := by decide +kernel
theorem dX4_byteAt_21 : decode cX4_byteAt 21 = .ok (.ireturn, 1) := by decide +kernel
theorem dX4_isFigure_0 : decode cX4_isFigure 0 = .ok (.iload_n 0, 1) := by decide +kernel
theorem dX4_isFigure_1 : decode cX4_isFigure 1 = .ok (.bipush 48, 2) := by decide +kernel
theorem dX4_isFigure_3 : decode cX4_isFigure 3 = .ok (.if_icmp .lt 13, 3) := by decide +kernel
theorem dX4_isFigure_6 : decode cX4_isFigure 6 = .ok (.iload_n 0, 1) := by decide +kernel
theorem dX4_isFigure_7 : decode cX4_isFigure 7 = .ok (.bipush 57, 2) := by decide +kernel
theorem dX4_isFigure_9 : decode cX4_isFigure 9 = .ok (.if_icmp .gt 7, 3) := by decide +kernel
theorem dX4_isFigure_12 : decode cX4_isFigure 12 = .ok (.iconst 1, 1) := by decide +kernel
theorem dX4_isFigure_13 : decode cX4_isFigure 13 = .ok (.goto 4, 3) := by decide +kernel
theorem dX4_isFigure_16 : decode cX4_isFigure 16 = .ok (.iconst 0, 1) := by decide +kernel
theorem dX4_isFigure_17 : decode cX4_isFigure 17 = .ok (.ireturn, 1) := by decide +kernel
theorem dX4_sortOf_0 : decode cX4_sortOf 0 = .ok (.iload_n 0, 1) := by decide +kernel
theorem dX4_sortOf_1 : decode cX4_sortOf 1 = .ok (.lookupswitch 61 #[(99, 51), (111, 59), (114, 57), (115, 53), (118, 55)], 51) := by decide +kernel
theorem dX4_sortOf_52 : decode cX4_sortOf 52 = .ok (.iconst 1, 1) := by decide +kernel
theorem dX4_sortOf_53 : decode cX4_sortOf 53 = .ok (.ireturn, 1) := by decide +kernel
theorem dX4_sortOf_54 : decode cX4_sortOf 54 = .ok (.iconst 2, 1) := by decide +kernel
theorem dX4_sortOf_55 : decode cX4_sortOf 55 = .ok (.ireturn, 1) := by decide +kernel
theorem dX4_sortOf_56 : decode cX4_sortOf 56 = .ok (.iconst 3, 1) := by decide +kernel
theorem dX4_sortOf_57 : decode cX4_sortOf 57 = .ok (.ireturn, 1) := by decide +kernel
theorem dX4_sortOf_58 : decode cX4_sortOf 58 = .ok (.iconst 4, 1) := by decide +kernel
theorem dX4_sortOf_59 : decode cX4_sortOf 59 = .ok (.ireturn, 1) := by decide +kernel
theorem dX4_sortOf_60 : decode cX4_sortOf 60 = .ok (.iconst 5, 1) := by decide +kernel
theorem dX4_sortOf_61 : decode cX4_sortOf 61 = .ok (.ireturn, 1) := by decide +kernel
theorem dX4_sortOf_62 : decode cX4_sortOf 62 = .ok (.iconst 0, 1) := by decide +kernel
theorem dX4_sortOf_63 : decode cX4_sortOf 63 = .ok (.ireturn, 1) := by decide +kernel
end
section
theorem dX5_init_0 : decode cX5_init 0 = .ok (.aload_n 0, 1) := by decide +kernel
theorem dX5_init_1 : decode cX5_init 1 = .ok (.invokespecial 1, 3) := by decide +kernel
theorem dX5_init_4 : decode cX5_init 4 = .ok (.aload_n 0, 1) := by decide +kernel
theorem dX5_init_5 : decode cX5_init 5 = .ok (.bipush 8, 2) := by decide +kernel
theorem dX5_init_7 : decode cX5_init 7 = .ok (.anewarray 9, 3) := by decide +kernel
theorem dX5_init_10 : decode cX5_init 10 = .ok (.putfield 11, 3) := by decide +kernel
theorem dX5_init_13 : decode cX5_init 13 = .ok (.aload_n 0, 1) := by decide +kernel
theorem dX5_init_14 : decode cX5_init 14 = .ok (.new 15, 3) := by decide +kernel
theorem dX5_init_17 : decode cX5_init 17 = .ok (.dup, 1) := by decide +kernel
theorem dX5_init_18 : decode cX5_init 18 = .ok (.invokespecial 17, 3) := by decide +kernel
theorem dX5_init_21 : decode cX5_init 21 = .ok (.putfield 18, 3) := by decide +kernel
theorem dX5_init_24 : decode cX5_init 24 = .ok (.aload_n 0, 1) := by decide +kernel
theorem dX5_init_25 : decode cX5_init 25 = .ok (.new 22, 3) := by decide +kernel
theorem dX5_init_28 : decode cX5_init 28 = .ok (.dup, 1) := by decide +kernel
theorem dX5_init_29 : decode cX5_init 29 = .ok (.invokespecial 24, 3) := by decide +kernel
theorem dX5_init_32 : decode cX5_init 32 = .ok (.putfield 25, 3) := by decide +kernel
theorem dX5_init_35 : decode cX5_init 35 = .ok (.aload_n 0, 1) := by decide +kernel
theorem dX5_init_36 : decode cX5_init 36 = .ok (.new 22, 3) := by decide +kernel
theorem dX5_init_39 : decode cX5_init 39 = .ok (.dup, 1) := by decide +kernel
theorem dX5_init_40 : decode cX5_init 40 = .ok (.invokespecial 24, 3) := by decide +kernel
theorem dX5_init_43 : decode cX5_init 43 = .ok (.putfield 29, 3) := by decide +kernel
theorem dX5_init_46 : decode cX5_init 46 = .ok (.aload_n 0, 1) := by decide +kernel
theorem dX5_init_47 : decode cX5_init 47 = .ok (.iconst 2, 1) := by decide +kernel
theorem dX5_init_48 : decode cX5_init 48 = .ok (.anewarray 22, 3) := by decide +kernel
theorem dX5_init_51 : decode cX5_init 51 = .ok (.putfield 32, 3) := by decide +kernel
theorem dX5_init_54 : decode cX5_init 54 = .ok (.aload_n 0, 1) := by decide +kernel
theorem dX5_init_55 : decode cX5_init 55 = .ok (.new 36, 3) := by decide +kernel
theorem dX5_init_58 : decode cX5_init 58 = .ok (.dup, 1) := by decide +kernel
theorem dX5_init_59 : decode cX5_init 59 = .ok (.invokespecial 38, 3) := by decide +kernel
theorem dX5_init_62 : decode cX5_init 62 = .ok (.putfield 39, 3) := by decide +kernel
theorem dX5_init_65 : decode cX5_init 65 = .ok (.aload_n 0, 1) := by decide +kernel
theorem dX5_init_66 : decode cX5_init 66 = .ok (.new 43, 3) := by decide +kernel
theorem dX5_init_69 : decode cX5_init 69 = .ok (.dup, 1) := by decide +kernel
theorem dX5_init_70 : decode cX5_init 70 = .ok (.invokespecial 45, 3) := by decide +kernel
theorem dX5_init_73 : decode cX5_init 73 = .ok (.putfield 46, 3) := by decide +kernel
theorem dX5_init_76 : decode cX5_init 76 = .ok (.aload_n 0, 1) := by decide +kernel
theorem dX5_init_77 : decode cX5_init 77 = .ok (.bipush 16, 2) := by decide +kernel
theorem dX5_init_79 : decode cX5_init 79 = .ok (.newarray .int, 2) := by decide +kernel
theorem dX5_init_81 : decode cX5_init 81 = .ok (.putfield 50, 3) := by decide +kernel
theorem dX5_init_84 : decode cX5_init 84 = .ok (.iconst 0, 1) := by decide +kernel
theorem dX5_init_85 : decode cX5_init 85 = .ok (.istore_n 1, 1) := by decide +kernel
theorem dX5_init_86 : decode cX5_init 86 = .ok (.iload_n 1, 1) := by decide +kernel
theorem dX5_init_87 : decode cX5_init 87 = .ok (.bipush 8, 2) := by decide +kernel
theorem dX5_init_89 : decode cX5_init 89 = .ok (.if_icmp .ge 22, 3) := by decide +kernel
theorem dX5_init_92 : decode cX5_init 92 = .ok (.aload_n 0, 1) := by decide +kernel
theorem dX5_init_93 : decode cX5_init 93 = .ok (.getfield 11, 3) := by decide +kernel
theorem dX5_init_96 : decode cX5_init 96 = .ok (.iload_n 1, 1) := by decide +kernel
theorem dX5_init_97 : decode cX5_init 97 = .ok (.new 9, 3) := by decide +kernel
theorem dX5_init_100 : decode cX5_init 100 = .ok (.dup, 1) := by decide +kernel
theorem dX5_init_101 : decode cX5_init 101 = .ok (.invokespecial 54, 3) := by decide +kernel
theorem dX5_init_104 : decode cX5_init 104 = .ok (.aastore, 1) := by decide +kernel
theorem dX5_init_105 : decode cX5_init 105 = .ok (.iinc 1 1, 3) := by decide +kernel
theorem dX5_init_108 : decode cX5_init 108 = .ok (.goto (-22), 3) := by decide +kernel
theorem dX5_init_111 : decode cX5_init 111 = .ok (.iconst 0, 1) := by decide +kernel
theorem dX5_init_112 : decode cX5_init 112 = .ok (.istore_n 1, 1) := by decide +kernel
theorem dX5_init_113 : decode cX5_init 113 = .ok (.iload_n 1, 1) := by decide +kernel
theorem dX5_init_114 : decode cX5_init 114 = .ok (.iconst 2, 1) := by decide +kernel
theorem dX5_init_115 : decode cX5_init 115 = .ok (.if_icmp .ge 22, 3) := by decide +kernel
theorem dX5_init_118 : decode cX5_init 118 = .ok (.aload_n 0, 1) := by decide +kernel
theorem dX5_init_119 : decode cX5_init 119 = .ok (.getfield 32, 3) := by decide +kernel
theorem dX5_init_122 : decode cX5_init 122 = .ok (.iload_n 1, 1) := by decide +kernel
theorem dX5_init_123 : decode cX5_init 123 = .ok (.new 22, 3) := by decide +kernel
theorem dX5_init_126 : decode cX5_init 126 = .ok (.dup, 1) := by decide +kernel
theorem dX5_init_127 : decode cX5_init 127 = .ok (.invokespecial 24, 3) := by decide +kernel
theorem dX5_init_130 : decode cX5_init 130 = .ok (.aastore, 1) := by decide +kernel
theorem dX5_init_131 : decode cX5_init 131 = .ok (.iinc 1 1, 3) := by decide +kernel
theorem dX5_init_134 : decode cX5_init 134 = .ok (.goto (-21), 3) := by decide +kernel
theorem dX5_init_137 : decode cX5_init 137 = .ok (.return_, 1) := by decide +kernel
theorem dX5_row_0 : decode cX5_row 0 = .ok (.iload_n 1, 1) := by decide +kernel
theorem dX5_row_1 : decode cX5_row 1 = .ok (.invokestatic 55, 3) := by decide +kernel
theorem dX5_row_4 : decode cX5_row 4 = .ok (.ifCond .eq 17, 3) := by decide +kernel
theorem dX5_row_7 : decode cX5_row 7 = .ok (.iload_n 2, 1) := by decide +kernel
theorem dX5_row_8 : decode cX5_row 8 = .ok (.iconst 3, 1) := by decide +kernel
theorem dX5_row_9 : decode cX5_row 9 = .ok (.invokestatic 59, 3) := by decide +kernel
theorem dX5_row_12 : decode cX5_row 12 = .ok (.ifCond .eq 9, 3) := by decide +kernel
theorem dX5_row_15 : decode cX5_row 15 = .ok (.iload_n 3, 1) := by decide +kernel
theorem dX5_row_16 : decode cX5_row 16 = .ok (.bipush 40, 2) := by decide +kernel
theorem dX5_row_18 : decode cX5_row 18 = .ok (.if_icmp .le 6, 3) := by decide +kernel
theorem dX5_row_21 : decode cX5_row 21 = .ok (.ldc 63, 2) := by decide +kernel
theorem dX5_row_23 : decode cX5_row 23 = .ok (.ireturn, 1) := by decide +kernel
theorem dX5_row_24 : decode cX5_row 24 = .ok (.iload_n 3, 1) := by decide +kernel
theorem dX5_row_25 : decode cX5_row 25 = .ok (.ifCond .ge 9, 3) := by decide +kernel
theorem dX5_row_28 : decode cX5_row 28 = .ok (.aload_n 0, 1) := by decide +kernel
theorem dX5_row_29 : decode cX5_row 29 = .ok (.iconst 4, 1) := by decide +kernel
theorem dX5_row_30 : decode cX5_row 30 = .ok (.invokevirtual 64, 3) := by decide +kernel
theorem dX5_row_33 : decode cX5_row 33 = .ok (.ireturn, 1) := by decide +kernel
theorem dX5_row_34 : decode cX5_row 34 = .ok (.aload_n 0, 1) := by decide +kernel
theorem dX5_row_35 : decode cX5_row 35 = .ok (.iconst 0, 1) := by decide +kernel
theorem dX5_row_36 : decode cX5_row 36 = .ok (.putfield 68, 3) := by decide +kernel
theorem dX5_row_39 : decode cX5_row 39 = .ok (.aload_n 0, 1) := by decide +kernel
theorem dX5_row_40 : decode cX5_row 40 = .ok (.getfield 11, 3) := by decide +kernel
theorem dX5_row_43 : decode cX5_row 43 = .ok (.iload_n 1, 1) := by decide +kernel
theorem dX5_row_44 : decode cX5_row 44 = .ok (.aaload, 1) := by decide +kernel
theorem dX5_row_45 : decode cX5_row 45 = .ok (.iload_n 2, 1) := by decide +kernel
theorem dX5_row_46 : decode cX5_row 46 = .ok (.iload_n 3, 1) := by decide +kernel
theorem dX5_row_47 : decode cX5_row 47 = .ok (.invokevirtual 72, 3) := by decide +kernel
theorem dX5_row_50 : decode cX5_row 50 = .ok (.iload_n 3, 1) := by decide +kernel
theorem dX5_row_51 : decode cX5_row 51 = .ok (.ireturn, 1) := by decide +kernel
theorem dX5_set_0 : decode cX5_set 0 = .ok (.iload_n 1, 1) := by decide +kernel
theorem dX5_set_1 : decode cX5_set 1 = .ok (.invokestatic 55, 3) := by decide +kernel
theorem dX5_set_4 : decode cX5_set 4 = .ok (.ifCond .ne 6, 3) := by decide +kernel
theorem dX5_set_7 : decode cX5_set 7 = .ok (.ldc 63, 2) := by decide +kernel
theorem dX5_set_9 : decode cX5_set 9 = .ok (.ireturn, 1) := by decide +kernel
theorem dX5_set_10 : decode cX5_set 10 = .ok (.aload_n 0, 1) := by decide +kernel
theorem dX5_set_11 : decode cX5_set 11 = .ok (.getfield 11, 3) := by decide +kernel
theorem dX5_set_14 : decode cX5_set 14 = .ok (.iload_n 1, 1) := by decide +kernel
theorem dX5_set_15 : decode cX5_set 15 = .ok (.aaload, 1) := by decide +kernel
theorem dX5_set_16 : decode cX5_set 16 = .ok (.astore 4, 2) := by decide +kernel
theorem dX5_set_18 : decode cX5_set 18 = .ok (.aload 4, 2) := by decide +kernel
theorem dX5_set_20 : decode cX5_set 20 = .ok (.getfield 76, 3) := by decide +kernel
theorem dX5_set_23 : decode cX5_set 23 = .ok (.iconst (-1), 1) := by decide +kernel
theorem dX5_set_24 : decode cX5_set 24 = .ok (.if_icmp .ne 9, 3) := by decide +kernel
theorem dX5_set_27 : decode cX5_set 27 = .ok (.aload_n 0, 1) := by decide +kernel
theorem dX5_set_28 : decode cX5_set 28 = .ok (.iconst 1, 1) := by decide +kernel
theorem dX5_set_29 : decode cX5_set 29 = .ok (.invokevirtual 64, 3) := by decide +kernel
theorem dX5_set_32 : decode cX5_set 32 = .ok (.ireturn, 1) := by decide +kernel
theorem dX5_set_33 : decode cX5_set 33 = .ok (.iload_n 2, 1) := by decide +kernel
theorem dX5_set_34 : decode cX5_set 34 = .ok (.aload 4, 2) := by decide +kernel
theorem dX5_set_36 : decode cX5_set 36 = .ok (.getfield 79, 3) := by decide +kernel
theorem dX5_set_39 : decode cX5_set 39 = .ok (.invokestatic 59, 3) := by decide +kernel
theorem dX5_set_42 : decode cX5_set 42 = .ok (.ifCond .ne 9, 3) := by decide +kernel
theorem dX5_set_45 : decode cX5_set 45 = .ok (.aload_n 0, 1) := by decide +kernel
theorem dX5_set_46 : decode cX5_set 46 = .ok (.iconst 2, 1) := by decide +kernel
theorem dX5_set_47 : decode cX5_set 47 = .ok (.invokevirtual 64, 3) := by decide +kernel
theorem dX5_set_50 : decode cX5_set 50 = .ok (.ireturn, 1) := by decide +kernel
theorem dX5_set_51 : decode cX5_set 51 = .ok (.aload_n 0, 1) := by decide +kernel
theorem dX5_set_52 : decode cX5_set 52 = .ok (.iconst 0, 1) := by decide +kernel
theorem dX5_set_53 : decode cX5_set 53 = .ok (.putfield 68, 3) := by decide +kernel
theorem dX5_set_56 : decode cX5_set 56 = .ok (.aload 4, 2) := by decide +kernel
theorem dX5_set_58 : decode cX5_set 58 = .ok (.getfield 82, 3) := by decide +kernel
theorem dX5_set_61 : decode cX5_set 61 = .ok (.iload_n 2, 1) := by decide +kernel
theorem dX5_set_62 : decode cX5_set 62 = .ok (.aload 4, 2) := by decide +kernel
theorem dX5_set_64 : decode cX5_set 64 = .ok (.iload_n 3, 1) := by decide +kernel
theorem dX5_set_65 : decode cX5_set 65 = .ok (.invokevirtual 85, 3) := by decide +kernel
theorem dX5_set_68 : decode cX5_set 68 = .ok (.iastore, 1) := by decide +kernel
theorem dX5_set_69 : decode cX5_set 69 = .ok (.aload 4, 2) := by decide +kernel
theorem dX5_set_71 : decode cX5_set 71 = .ok (.getfield 82, 3) := by decide +kernel
theorem dX5_set_74 : decode cX5_set 74 = .ok (.iload_n 2, 1) := by decide +kernel
theorem dX5_set_75 : decode cX5_set 75 = .ok (.iaload, 1) := by decide +kernel
theorem dX5_set_76 : decode cX5_set 76 = .ok (.ireturn, 1) := by decide +kernel
theorem dX5_copy_0 : decode cX5_copy 0 = .ok (.iload_n 1, 1) := by decide +kernel
theorem dX5_copy_1 : decode cX5_copy 1 = .ok (.invokestatic 55, 3) := by decide +kernel
theorem dX5_copy_4 : decode cX5_copy 4 = .ok (.ifCond .eq 10, 3) := by decide +kernel
theorem dX5_copy_7 : decode cX5_copy 7 = .ok (.iload_n 3, 1) := by decide +kernel
theorem dX5_copy_8 : decode cX5_copy 8 = .ok (.invokestatic 55, 3) := by decide +kernel
theorem dX5_copy_11 : decode cX5_copy 11 = .ok (.ifCond .ne 6, 3) := by decide +kernel
theorem dX5_copy_14 : decode cX5_copy 14 = .ok (.ldc 63, 2) := by decide +kernel
theorem dX5_copy_16 : decode cX5_copy 16 = .ok (.ireturn, 1) := by decide +kernel
theorem dX5_copy_17 : decode cX5_copy 17 = .ok (.aload_n 0, 1) := by decide +kernel
theorem dX5_copy_18 : decode cX5_copy 18 = .ok (.getfield 11, 3) := by decide +kernel
theorem dX5_copy_21 : decode cX5_copy 21 = .ok (.iload_n 1, 1) := by decide +kernel
theorem dX5_copy_22 : decode cX5_copy 22 = .ok (.aaload, 1) := by decide +kernel
theorem dX5_copy_23 : decode cX5_copy 23 = .ok (.astore 6, 2) := by decide +kernel
theorem dX5_copy_25 : decode cX5_copy 25 = .ok (.aload_n 0, 1) := by decide +kernel
theorem dX5_copy_26 : decode cX5_copy 26 = .ok (.getfield 11, 3) := by decide +kernel
theorem dX5_copy_29 : decode cX5_copy 29 = .ok (.iload_n 3, 1) := by decide +kernel
theorem dX5_copy_30 : decode cX5_copy 30 = .ok (.aaload, 1) := by decide +kernel
theorem dX5_copy_31 : decode cX5_copy 31 = .ok (.astore 7, 2) := by decide +kernel
theorem dX5_copy_33 : decode cX5_copy 33 = .ok (.aload 6, 2) := by decide +kernel
theorem dX5_copy_35 : decode cX5_copy 35 = .ok (.getfield 76, 3) := by decide +kernel
theorem dX5_copy_38 : decode cX5_copy 38 = .ok (.iconst (-1), 1) := by decide +kernel
theorem dX5_copy_39 : decode cX5_copy 39 = .ok (.if_icmp .eq 12, 3) := by decide +kernel
theorem dX5_copy_42 : decode cX5_copy 42 = .ok (.aload 7, 2) := by decide +kernel
theorem dX5_copy_44 : decode cX5_copy 44 = .ok (.getfield 76, 3) := by decide +kernel
theorem dX5_copy_47 : decode cX5_copy 47 = .ok (.iconst (-1), 1) := by decide +kernel
theorem dX5_copy_48 : decode cX5_copy 48 = .ok (.if_icmp .ne 9, 3) := by decide +kernel
theorem dX5_copy_51 : decode cX5_copy 51 = .ok (.aload_n 0, 1) := by decide +kernel
theorem dX5_copy_52 : decode cX5_copy 52 = .ok (.iconst 1, 1) := by decide +kernel
theorem dX5_copy_53 : decode cX5_copy 53 = .ok (.invokevirtual 64, 3) := by decide +kernel
theorem dX5_copy_56 : decode cX5_copy 56 = .ok (.ireturn, 1) := by decide +kernel
theorem dX5_copy_57 : decode cX5_copy 57 = .ok (.aload 6, 2) := by decide +kernel
theorem dX5_copy_59 : decode cX5_copy 59 = .ok (.getfield 76, 3) := by decide +kernel
theorem dX5_copy_62 : decode cX5_copy 62 = .ok (.aload 7, 2) := by decide +kernel
theorem dX5_copy_64 : decode cX5_copy 64 = .ok (.getfield 76, 3) := by decide +kernel
theorem dX5_copy_67 : decode cX5_copy 67 = .ok (.if_icmp .eq 9, 3) := by decide +kernel
theorem dX5_copy_70 : decode cX5_copy 70 = .ok (.aload_n 0, 1) := by decide +kernel
theorem dX5_copy_71 : decode cX5_copy 71 = .ok (.iconst 5, 1) := by decide +kernel
theorem dX5_copy_72 : decode cX5_copy 72 = .ok (.invokevirtual 64, 3) := by decide +kernel
theorem dX5_copy_75 : decode cX5_copy 75 = .ok (.ireturn, 1) := by decide +kernel
theorem dX5_copy_76 : decode cX5_copy 76 = .ok (.aload 6, 2) := by decide +kernel
theorem dX5_copy_78 : decode cX5_copy 78 = .ok (.iload_n 2, 1) := by decide +kernel
theorem dX5_copy_79 : decode cX5_copy 79 = .ok (.iload 5, 2) := by decide +kernel
theorem dX5_copy_81 : decode cX5_copy 81 = .ok (.invokevirtual 88, 3) := by decide +kernel
theorem dX5_copy_84 : decode cX5_copy 84 = .ok (.ifCond .eq 15, 3) := by decide +kernel
theorem dX5_copy_87 : decode cX5_copy 87 = .ok (.aload 7, 2) := by decide +kernel
theorem dX5_copy_89 : decode cX5_copy 89 = .ok (.iload 4, 2) := by decide +kernel
theorem dX5_copy_91 : decode cX5_copy 91 = .ok (.iload 5, 2) := by decide +kernel
theorem dX5_copy_93 : decode cX5_copy 93 = .ok (.invokevirtual 88, 3) := by decide +kernel
theorem dX5_copy_96 : decode cX5_copy 96 = .ok (.ifCond .ne 9, 3) := by decide +kernel
theorem dX5_copy_99 : decode cX5_copy 99 = .ok (.aload_n 0, 1) := by decide +kernel
theorem dX5_copy_100 : decode cX5_copy 100 = .ok (.iconst 2, 1) := by decide +kernel
theorem dX5_copy_101 : decode cX5_copy 101 = .ok (.invokevirtual 64, 3) := by decide +kernel
theorem dX5_copy_104 : decode cX5_copy 104 = .ok (.ireturn, 1) := by decide +kernel
theorem dX5_copy_105 : decode cX5_copy 105 = .ok (.aload_n 0, 1) := by decide +kernel
theorem dX5_copy_106 : decode cX5_copy 106 = .ok (.iconst 0, 1) := by decide +kernel
theorem dX5_copy_107 : decode cX5_copy 107 = .ok (.putfield 68, 3) := by decide +kernel
theorem dX5_copy_110 : decode cX5_copy 110 = .ok (.aload 6, 2) := by decide +kernel
theorem dX5_copy_112 : decode cX5_copy 112 = .ok (.getfield 82, 3) := by decide +kernel
theorem dX5_copy_115 : decode cX5_copy 115 = .ok (.iload_n 2, 1) := by decide +kernel
theorem dX5_copy_116 : decode cX5_copy 116 = .ok (.aload 7, 2) := by decide +kernel
theorem dX5_copy_118 : decode cX5_copy 118 = .ok (.getfield 82, 3) := by decide +kernel
theorem dX5_copy_121 : decode cX5_copy 121 = .ok (.iload 4, 2) := by decide +kernel
theorem dX5_copy_123 : decode cX5_copy 123 = .ok (.iload 5, 2) := by decide +kernel
theorem dX5_copy_125 : decode cX5_copy 125 = .ok (.invokestatic 91, 3) := by decide +kernel
theorem dX5_copy_128 : decode cX5_copy 128 = .ok (.iload 5, 2) := by decide +kernel
theorem dX5_copy_130 : decode cX5_copy 130 = .ok (.ireturn, 1) := by decide +kernel
theorem dX5_drop_0 : decode cX5_drop 0 = .ok (.iload_n 1, 1) := by decide +kernel
theorem dX5_drop_1 : decode cX5_drop 1 = .ok (.invokestatic 55, 3) := by decide +kernel
theorem dX5_drop_4 : decode cX5_drop 4 = .ok (.ifCond .ne 6, 3) := by decide +kernel
theorem dX5_drop_7 : decode cX5_drop 7 = .ok (.ldc 63, 2) := by decide +kernel
theorem dX5_drop_9 : decode cX5_drop 9 = .ok (.ireturn, 1) := by decide +kernel
theorem dX5_drop_10 : decode cX5_drop 10 = .ok (.aload_n 0, 1) := by decide +kernel
theorem dX5_drop_11 : decode cX5_drop 11 = .ok (.getfield 11, 3) := by decide +kernel
theorem dX5_drop_14 : decode cX5_drop 14 = .ok (.iload_n 1, 1) := by decide +kernel
theorem dX5_drop_15 : decode cX5_drop 15 = .ok (.aaload, 1) := by decide +kernel
theorem dX5_drop_16 : decode cX5_drop 16 = .ok (.astore_n 2, 1) := by decide +kernel
theorem dX5_drop_17 : decode cX5_drop 17 = .ok (.aload_n 2, 1) := by decide +kernel
theorem dX5_drop_18 : decode cX5_drop 18 = .ok (.getfield 76, 3) := by decide +kernel
theorem dX5_drop_21 : decode cX5_drop 21 = .ok (.iconst (-1), 1) := by decide +kernel
theorem dX5_drop_22 : decode cX5_drop 22 = .ok (.if_icmp .ne 9, 3) := by decide +kernel
theorem dX5_drop_25 : decode cX5_drop 25 = .ok (.aload_n 0, 1) := by decide +kernel
theorem dX5_drop_26 : decode cX5_drop 26 = .ok (.iconst 1, 1) := by decide +kernel
theorem dX5_drop_27 : decode cX5_drop 27 = .ok (.invokevirtual 64, 3) := by decide +kernel
theorem dX5_drop_30 : decode cX5_drop 30 = .ok (.ireturn, 1) := by decide +kernel
theorem dX5_drop_31 : decode cX5_drop 31 = .ok (.aload_n 0, 1) := by decide +kernel
theorem dX5_drop_32 : decode cX5_drop 32 = .ok (.iconst 0, 1) := by decide +kernel
theorem dX5_drop_33 : decode cX5_drop 33 = .ok (.putfield 68, 3) := by decide +kernel
theorem dX5_drop_36 : decode cX5_drop 36 = .ok (.aload_n 2, 1) := by decide +kernel
theorem dX5_drop_37 : decode cX5_drop 37 = .ok (.iconst (-1), 1) := by decide +kernel
theorem dX5_drop_38 : decode cX5_drop 38 = .ok (.putfield 76, 3) := by decide +kernel
theorem dX5_drop_41 : decode cX5_drop 41 = .ok (.aload_n 2, 1) := by decide +kernel
theorem dX5_drop_42 : decode cX5_drop 42 = .ok (.getfield 79, 3) := by decide +kernel
theorem dX5_drop_45 : decode cX5_drop 45 = .ok (.ireturn, 1) := by decide +kernel
theorem dX5_feed_0 : decode cX5_feed 0 = .ok (.iload_n 1, 1) := by decide +kernel
theorem dX5_feed_1 : decode cX5_feed 1 = .ok (.sipush 256, 3) := by decide +kernel
theorem dX5_feed_4 : decode cX5_feed 4 = .ok (.invokestatic 59, 3) := by decide +kernel
theorem dX5_feed_7 : decode cX5_feed 7 = .ok (.ifCond .ne 6, 3) := by decide +kernel
theorem dX5_feed_10 : decode cX5_feed 10 = .ok (.ldc 63, 2) := by decide +kernel
theorem dX5_feed_12 : decode cX5_feed 12 = .ok (.ireturn, 1) := by decide +kernel
theorem dX5_feed_13 : decode cX5_feed 13 = .ok (.aload_n 0, 1) := by decide +kernel
theorem dX5_feed_14 : decode cX5_feed 14 = .ok (.getfield 18, 3) := by decide +kernel
theorem dX5_feed_17 : decode cX5_feed 17 = .ok (.getfield 97, 3) := by decide +kernel
theorem dX5_feed_20 : decode cX5_feed 20 = .ok (.bipush 120, 2) := by decide +kernel
theorem dX5_feed_22 : decode cX5_feed 22 = .ok (.if_icmp .lt 6, 3) := by decide +kernel
theorem dX5_feed_25 : decode cX5_feed 25 = .ok (.ldc 100, 2) := by decide +kernel
theorem dX5_feed_27 : decode cX5_feed 27 = .ok (.ireturn, 1) := by decide +kernel
theorem dX5_feed_28 : decode cX5_feed 28 = .ok (.aload_n 0, 1) := by decide +kernel
theorem dX5_feed_29 : decode cX5_feed 29 = .ok (.getfield 18, 3) := by decide +kernel
theorem dX5_feed_32 : decode cX5_feed 32 = .ok (.getfield 101, 3) := by decide +kernel
theorem dX5_feed_35 : decode cX5_feed 35 = .ok (.aload_n 0, 1) := by decide +kernel
theorem dX5_feed_36 : decode cX5_feed 36 = .ok (.getfield 18, 3) := by decide +kernel
theorem dX5_feed_39 : decode cX5_feed 39 = .ok (.getfield 97, 3) := by decide +kernel
theorem dX5_feed_42 : decode cX5_feed 42 = .ok (.iload_n 1, 1) := by decide +kernel
theorem dX5_feed_43 : decode cX5_feed 43 = .ok (.iastore, 1) := by decide +kernel
theorem dX5_feed_44 : decode cX5_feed 44 = .ok (.aload_n 0, 1) := by decide +kernel
theorem dX5_feed_45 : decode cX5_feed 45 = .ok (.getfield 18, 3) := by decide +kernel
theorem dX5_feed_48 : decode cX5_feed 48 = .ok (.dup, 1) := by decide +kernel
theorem dX5_feed_49 : decode cX5_feed 49 = .ok (.getfield 97, 3) := by decide +kernel
theorem dX5_feed_52 : decode cX5_feed 52 = .ok (.iconst 1, 1) := by decide +kernel
theorem dX5_feed_53 : decode cX5_feed 53 = .ok (.iadd, 1) := by decide +kernel
theorem dX5_feed_54 : decode cX5_feed 54 = .ok (.putfield 97, 3) := by decide +kernel
theorem dX5_feed_57 : decode cX5_feed 57 = .ok (.aload_n 0, 1) := by decide +kernel
theorem dX5_feed_58 : decode cX5_feed 58 = .ok (.getfield 18, 3) := by decide +kernel
theorem dX5_feed_61 : decode cX5_feed 61 = .ok (.getfield 97, 3) := by decide +kernel
theorem dX5_feed_64 : decode cX5_feed 64 = .ok (.ireturn, 1) := by decide +kernel
theorem dX5_forest_0 : decode cX5_forest 0 = .ok (.aload_n 0, 1) := by decide +kernel
theorem dX5_forest_1 : decode cX5_forest 1 = .ok (.getfield 18, 3) := by decide +kernel
theorem dX5_forest_4 : decode cX5_forest 4 = .ok (.aload_n 0, 1) := by decide +kernel
theorem dX5_forest_5 : decode cX5_forest 5 = .ok (.getfield 29, 3) := by decide +kernel
theorem dX5_forest_8 : decode cX5_forest 8 = .ok (.invokevirtual 104, 3) := by decide +kernel
theorem dX5_forest_11 : decode cX5_forest 11 = .ok (.istore_n 1, 1) := by decide +kernel
theorem dX5_forest_12 : decode cX5_forest 12 = .ok (.aload_n 0, 1) := by decide +kernel
theorem dX5_forest_13 : decode cX5_forest 13 = .ok (.getfield 18, 3) := by decide +kernel
theorem dX5_forest_16 : decode cX5_forest 16 = .ok (.iconst 0, 1) := by decide +kernel
theorem dX5_forest_17 : decode cX5_forest 17 = .ok (.putfield 97, 3) := by decide +kernel
theorem dX5_forest_20 : decode cX5_forest 20 = .ok (.iload_n 1, 1) := by decide +kernel
theorem dX5_forest_21 : decode cX5_forest 21 = .ok (.ifCond .ne 14, 3) := by decide +kernel
theorem dX5_forest_24 : decode cX5_forest 24 = .ok (.ldc 108, 2) := by decide +kernel
theorem dX5_forest_26 : decode cX5_forest 26 = .ok (.aload_n 0, 1) := by decide +kernel
theorem dX5_forest_27 : decode cX5_forest 27 = .ok (.getfield 18, 3) := by decide +kernel
theorem dX5_forest_30 : decode cX5_forest 30 = .ok (.getfield 109, 3) := by decide +kernel
theorem dX5_forest_33 : decode cX5_forest 33 = .ok (.isub, 1) := by decide +kernel
theorem dX5_forest_34 : decode cX5_forest 34 = .ok (.ireturn, 1) := by decide +kernel
theorem dX5_forest_35 : decode cX5_forest 35 = .ok (.aload_n 0, 1) := by decide +kernel
theorem dX5_forest_36 : decode cX5_forest 36 = .ok (.getfield 25, 3) := by decide +kernel
theorem dX5_forest_39 : decode cX5_forest 39 = .ok (.aload_n 0, 1) := by decide +kernel
theorem dX5_forest_40 : decode cX5_forest 40 = .ok (.getfield 29, 3) := by decide +kernel
theorem dX5_forest_43 : decode cX5_forest 43 = .ok (.invokevirtual 112, 3) := by decide +kernel
theorem dX5_forest_46 : decode cX5_forest 46 = .ok (.aload_n 0, 1) := by decide +kernel
theorem dX5_forest_47 : decode cX5_forest 47 = .ok (.getfield 39, 3) := by decide +kernel
theorem dX5_forest_50 : decode cX5_forest 50 = .ok (.invokevirtual 116, 3) := by decide +kernel
theorem dX5_forest_53 : decode cX5_forest 53 = .ok (.aload_n 0, 1) := by decide +kernel
theorem dX5_forest_54 : decode cX5_forest 54 = .ok (.getfield 25, 3) := by decide +kernel
theorem dX5_forest_57 : decode cX5_forest 57 = .ok (.getfield 119, 3) := by decide +kernel
theorem dX5_forest_60 : decode cX5_forest 60 = .ok (.ireturn, 1) := by decide +kernel
theorem dX5_fault_0 : decode cX5_fault 0 = .ok (.aload_n 0, 1) := by decide +kernel
theorem dX5_fault_1 : decode cX5_fault 1 = .ok (.getfield 18, 3) := by decide +kernel
theorem dX5_fault_4 : decode cX5_fault 4 = .ok (.getfield 120, 3) := by decide +kernel
theorem dX5_fault_7 : decode cX5_fault 7 = .ok (.ireturn, 1) := by decide +kernel
theorem dX5_minutes_0 : decode cX5_minutes 0 = .ok (.aload_n 0, 1) := by decide +kernel
theorem dX5_minutes_1 : decode cX5_minutes 1 = .ok (.getfield 25, 3) := by decide +kernel
theorem dX5_minutes_4 : decode cX5_minutes 4 = .ok (.getfield 123, 3) := by decide +kernel
theorem dX5_minutes_7 : decode cX5_minutes 7 = .ok (.ifCond .ne 6, 3) := by decide +kernel
theorem dX5_minutes_10 : decode cX5_minutes 10 = .ok (.ldc 127, 2) := by decide +kernel
theorem dX5_minutes_12 : decode cX5_minutes 12 = .ok (.ireturn, 1) := by decide +kernel
theorem dX5_minutes_13 : decode cX5_minutes 13 = .ok (.iload_n 1, 1) := by decide +kernel
theorem dX5_minutes_14 : decode cX5_minutes 14 = .ok (.iconst 1, 1) := by decide +kernel
theorem dX5_minutes_15 : decode cX5_minutes 15 = .ok (.if_icmp .lt 9, 3) := by decide +kernel
theorem dX5_minutes_18 : decode cX5_minutes 18 = .ok (.iload_n 1, 1) := by decide +kernel
theorem dX5_minutes_19 : decode cX5_minutes 19 = .ok (.bipush 24, 2) := by decide +kernel
theorem dX5_minutes_21 : decode cX5_minutes 21 = .ok (.if_icmp .le 6, 3) := by decide +kernel
theorem dX5_minutes_24 : decode cX5_minutes 24 = .ok (.ldc 63, 2) := by decide +kernel
theorem dX5_minutes_26 : decode cX5_minutes 26 = .ok (.ireturn, 1) := by decide +kernel
theorem dX5_minutes_27 : decode cX5_minutes 27 = .ok (.aload_n 0, 1) := by decide +kernel
theorem dX5_minutes_28 : decode cX5_minutes 28 = .ok (.getfield 25, 3) := by decide +kernel
theorem dX5_minutes_31 : decode cX5_minutes 31 = .ok (.getfield 128, 3) := by decide +kernel
theorem dX5_minutes_34 : decode cX5_minutes 34 = .ok (.iload_n 1, 1) := by decide +kernel
theorem dX5_minutes_35 : decode cX5_minutes 35 = .ok (.iadd, 1) := by decide +kernel
theorem dX5_minutes_36 : decode cX5_minutes 36 = .ok (.sipush 999, 3) := by decide +kernel
theorem dX5_minutes_39 : decode cX5_minutes 39 = .ok (.if_icmp .le 6, 3) := by decide +kernel
theorem dX5_minutes_42 : decode cX5_minutes 42 = .ok (.ldc 100, 2) := by decide +kernel
theorem dX5_minutes_44 : decode cX5_minutes 44 = .ok (.ireturn, 1) := by decide +kernel
theorem dX5_minutes_45 : decode cX5_minutes 45 = .ok (.iconst 0, 1) := by decide +kernel
theorem dX5_minutes_46 : decode cX5_minutes 46 = .ok (.istore_n 2, 1) := by decide +kernel
theorem dX5_minutes_47 : decode cX5_minutes 47 = .ok (.iload_n 2, 1) := by decide +kernel
theorem dX5_minutes_48 : decode cX5_minutes 48 = .ok (.iload_n 1, 1) := by decide +kernel
theorem dX5_minutes_49 : decode cX5_minutes 49 = .ok (.if_icmp .ge 33, 3) := by decide +kernel
theorem dX5_minutes_52 : decode cX5_minutes 52 = .ok (.aload_n 0, 1) := by decide +kernel
theorem dX5_minutes_53 : decode cX5_minutes 53 = .ok (.getfield 39, 3) := by decide +kernel
theorem dX5_minutes_56 : decode cX5_minutes 56 = .ok (.iconst 0, 1) := by decide +kernel
theorem dX5_minutes_57 : decode cX5_minutes 57 = .ok (.iconst 0, 1) := by decide +kernel
theorem dX5_minutes_58 : decode cX5_minutes 58 = .ok (.iconst 0, 1) := by decide +kernel
theorem dX5_minutes_59 : decode cX5_minutes 59 = .ok (.iconst 0, 1) := by decide +kernel
theorem dX5_minutes_60 : decode cX5_minutes 60 = .ok (.invokevirtual 131, 3) := by decide +kernel
theorem dX5_minutes_63 : decode cX5_minutes 63 = .ok (.aload_n 0, 1) := by decide +kernel
theorem dX5_minutes_64 : decode cX5_minutes 64 = .ok (.getfield 25, 3) := by decide +kernel
theorem dX5_minutes_67 : decode cX5_minutes 67 = .ok (.dup, 1) := by decide +kernel
theorem dX5_minutes_68 : decode cX5_minutes 68 = .ok (.getfield 128, 3) := by decide +kernel
theorem dX5_minutes_71 : decode cX5_minutes 71 = .ok (.iconst 1, 1) := by decide +kernel
theorem dX5_minutes_72 : decode cX5_minutes 72 = .ok (.iadd, 1) := by decide +kernel
theorem dX5_minutes_73 : decode cX5_minutes 73 = .ok (.putfield 128, 3) := by decide +kernel
theorem dX5_minutes_76 : decode cX5_minutes 76 = .ok (.iinc 2 1, 3) := by decide +kernel
theorem dX5_minutes_79 : decode cX5_minutes 79 = .ok (.goto (-32), 3) := by decide +kernel
theorem dX5_minutes_82 : decode cX5_minutes 82 = .ok (.aload_n 0, 1) := by decide +kernel
theorem dX5_minutes_83 : decode cX5_minutes 83 = .ok (.getfield 25, 3) := by decide +kernel
theorem dX5_minutes_86 : decode cX5_minutes 86 = .ok (.aload_n 0, 1) := by decide +kernel
theorem dX5_minutes_87 : decode cX5_minutes 87 = .ok (.getfield 25, 3) := by decide +kernel
theorem dX5_minutes_90 : decode cX5_minutes 90 = .ok (.getfield 128, 3) := by decide +kernel
theorem dX5_minutes_93 : decode cX5_minutes 93 = .ok (.invokevirtual 135, 3) := by decide +kernel
theorem dX5_minutes_96 : decode cX5_minutes 96 = .ok (.ireturn, 1) := by decide +kernel
theorem dX5_sling_0 : decode cX5_sling 0 = .ok (.aload_n 0, 1) := by decide +kernel
theorem dX5_sling_1 : decode cX5_sling 1 = .ok (.iload_n 1, 1) := by decide +kernel
theorem dX5_sling_2 : decode cX5_sling 2 = .ok (.invokevirtual 138, 3) := by decide +kernel
theorem dX5_sling_5 : decode cX5_sling 5 = .ok (.ifCond .eq 18, 3) := by decide +kernel
theorem dX5_sling_8 : decode cX5_sling 8 = .ok (.iload_n 2, 1) := by decide +kernel
theorem dX5_sling_9 : decode cX5_sling 9 = .ok (.ifCond .lt 14, 3) := by decide +kernel
theorem dX5_sling_12 : decode cX5_sling 12 = .ok (.iload_n 3, 1) := by decide +kernel
theorem dX5_sling_13 : decode cX5_sling 13 = .ok (.bipush 12, 2) := by decide +kernel
theorem dX5_sling_15 : decode cX5_sling 15 = .ok (.if_icmp .ge 8, 3) := by decide +kernel
theorem dX5_sling_18 : decode cX5_sling 18 = .ok (.iload_n 3, 1) := by decide +kernel
theorem dX5_sling_19 : decode cX5_sling 19 = .ok (.iload_n 2, 1) := by decide +kernel
theorem dX5_sling_20 : decode cX5_sling 20 = .ok (.if_icmp .gt 6, 3) := by decide +kernel
theorem dX5_sling_23 : decode cX5_sling 23 = .ok (.ldc 63, 2) := by decide +kernel
theorem dX5_sling_25 : decode cX5_sling 25 = .ok (.ireturn, 1) := by decide +kernel
theorem dX5_sling_26 : decode cX5_sling 26 = .ok (.aload_n 0, 1) := by decide +kernel
theorem dX5_sling_27 : decode cX5_sling 27 = .ok (.getfield 25, 3) := by decide +kernel
theorem dX5_sling_30 : decode cX5_sling 30 = .ok (.getfield 141, 3) := by decide +kernel
theorem dX5_sling_33 : decode cX5_sling 33 = .ok (.iload_n 1, 1) := by decide +kernel
theorem dX5_sling_34 : decode cX5_sling 34 = .ok (.iaload, 1) := by decide +kernel
theorem dX5_sling_35 : decode cX5_sling 35 = .ok (.iload_n 2, 1) := by decide +kernel
theorem dX5_sling_36 : decode cX5_sling 36 = .ok (.if_icmp .ne 19, 3) := by decide +kernel
theorem dX5_sling_39 : decode cX5_sling 39 = .ok (.aload_n 0, 1) := by decide +kernel
theorem dX5_sling_40 : decode cX5_sling 40 = .ok (.getfield 25, 3) := by decide +kernel
theorem dX5_sling_43 : decode cX5_sling 43 = .ok (.getfield 144, 3) := by decide +kernel
theorem dX5_sling_46 : decode cX5_sling 46 = .ok (.iload_n 1, 1) := by decide +kernel
theorem dX5_sling_47 : decode cX5_sling 47 = .ok (.iaload, 1) := by decide +kernel
theorem dX5_sling_48 : decode cX5_sling 48 = .ok (.iload_n 3, 1) := by decide +kernel
theorem dX5_sling_49 : decode cX5_sling 49 = .ok (.if_icmp .ne 6, 3) := by decide +kernel
theorem dX5_sling_52 : decode cX5_sling 52 = .ok (.ldc 127, 2) := by decide +kernel
theorem dX5_sling_54 : decode cX5_sling 54 = .ok (.ireturn, 1) := by decide +kernel
theorem dX5_sling_55 : decode cX5_sling 55 = .ok (.aload_n 0, 1) := by decide +kernel
theorem dX5_sling_56 : decode cX5_sling 56 = .ok (.getfield 39, 3) := by decide +kernel
theorem dX5_sling_59 : decode cX5_sling 59 = .ok (.iconst 1, 1) := by decide +kernel
theorem dX5_sling_60 : decode cX5_sling 60 = .ok (.iload_n 1, 1) := by decide +kernel
theorem dX5_sling_61 : decode cX5_sling 61 = .ok (.aload_n 0, 1) := by decide +kernel
theorem dX5_sling_62 : decode cX5_sling 62 = .ok (.getfield 25, 3) := by decide +kernel
theorem dX5_sling_65 : decode cX5_sling 65 = .ok (.getfield 141, 3) := by decide +kernel
theorem dX5_sling_68 : decode cX5_sling 68 = .ok (.iload_n 1, 1) := by decide +kernel
theorem dX5_sling_69 : decode cX5_sling 69 = .ok (.iaload, 1) := by decide +kernel
theorem dX5_sling_70 : decode cX5_sling 70 = .ok (.aload_n 0, 1) := by decide +kernel
theorem dX5_sling_71 : decode cX5_sling 71 = .ok (.getfield 25, 3) := by decide +kernel
theorem dX5_sling_74 : decode cX5_sling 74 = .ok (.getfield 144, 3) := by decide +kernel
theorem dX5_sling_77 : decode cX5_sling 77 = .ok (.iload_n 1, 1) := by decide +kernel
theorem dX5_sling_78 : decode cX5_sling 78 = .ok (.iaload, 1) := by decide +kernel
theorem dX5_sling_79 : decode cX5_sling 79 = .ok (.invokevirtual 131, 3) := by decide +kernel
theorem dX5_sling_82 : decode cX5_sling 82 = .ok (.aload_n 0, 1) := by decide +kernel
theorem dX5_sling_83 : decode cX5_sling 83 = .ok (.getfield 25, 3) := by decide +kernel
theorem dX5_sling_86 : decode cX5_sling 86 = .ok (.getfield 141, 3) := by decide +kernel
theorem dX5_sling_89 : decode cX5_sling 89 = .ok (.iload_n 1, 1) := by decide +kernel
theorem dX5_sling_90 : decode cX5_sling 90 = .ok (.iload_n 2, 1) := by decide +kernel
theorem dX5_sling_91 : decode cX5_sling 91 = .ok (.iastore, 1) := by decide +kernel
theorem dX5_sling_92 : decode cX5_sling 92 = .ok (.aload_n 0, 1) := by decide +kernel
theorem dX5_sling_93 : decode cX5_sling 93 = .ok (.getfield 25, 3) := by decide +kernel
theorem dX5_sling_96 : decode cX5_sling 96 = .ok (.getfield 144, 3) := by decide +kernel
theorem dX5_sling_99 : decode cX5_sling 99 = .ok (.iload_n 1, 1) := by decide +kernel
theorem dX5_sling_100 : decode cX5_sling 100 = .ok (.iload_n 3, 1) := by decide +kernel
theorem dX5_sling_101 : decode cX5_sling 101 = .ok (.iastore, 1) := by decide +kernel
theorem dX5_sling_102 : decode cX5_sling 102 = .ok (.aload_n 0, 1) := by decide +kernel
theorem dX5_sling_103 : decode cX5_sling 103 = .ok (.getfield 25, 3) := by decide +kernel
theorem dX5_sling_106 : decode cX5_sling 106 = .ok (.iload_n 1, 1) := by decide +kernel
theorem dX5_sling_107 : decode cX5_sling 107 = .ok (.aload_n 0, 1) := by decide +kernel
theorem dX5_sling_108 : decode cX5_sling 108 = .ok (.getfield 25, 3) := by decide +kernel
theorem dX5_sling_111 : decode cX5_sling 111 = .ok (.getfield 128, 3) := by decide +kernel
theorem dX5_sling_114 : decode cX5_sling 114 = .ok (.invokevirtual 147, 3) := by decide +kernel
theorem dX5_sling_117 : decode cX5_sling 117 = .ok (.ireturn, 1) := by decide +kernel
theorem dX5_load_0 : decode cX5_load 0 = .ok (.aload_n 0, 1) := by decide +kernel
theorem dX5_load_1 : decode cX5_load 1 = .ok (.iload_n 1, 1) := by decide +kernel
theorem dX5_load_2 : decode cX5_load 2 = .ok (.invokevirtual 138, 3) := by decide +kernel
theorem dX5_load_5 : decode cX5_load 5 = .ok (.ifCond .eq 14, 3) := by decide +kernel
theorem dX5_load_8 : decode cX5_load 8 = .ok (.iload_n 2, 1) := by decide +kernel
theorem dX5_load_9 : decode cX5_load 9 = .ok (.iconst 1, 1) := by decide +kernel
theorem dX5_load_10 : decode cX5_load 10 = .ok (.if_icmp .lt 9, 3) := by decide +kernel
theorem dX5_load_13 : decode cX5_load 13 = .ok (.iload_n 2, 1) := by decide +kernel
theorem dX5_load_14 : decode cX5_load 14 = .ok (.bipush 20, 2) := by decide +kernel
theorem dX5_load_16 : decode cX5_load 16 = .ok (.if_icmp .le 6, 3) := by decide +kernel
theorem dX5_load_19 : decode cX5_load 19 = .ok (.ldc 63, 2) := by decide +kernel
theorem dX5_load_21 : decode cX5_load 21 = .ok (.ireturn, 1) := by decide +kernel
theorem dX5_load_22 : decode cX5_load 22 = .ok (.aload_n 0, 1) := by decide +kernel
theorem dX5_load_23 : decode cX5_load 23 = .ok (.getfield 39, 3) := by decide +kernel
theorem dX5_load_26 : decode cX5_load 26 = .ok (.iconst 2, 1) := by decide +kernel
theorem dX5_load_27 : decode cX5_load 27 = .ok (.iload_n 1, 1) := by decide +kernel
theorem dX5_load_28 : decode cX5_load 28 = .ok (.aload_n 0, 1) := by decide +kernel
theorem dX5_load_29 : decode cX5_load 29 = .ok (.getfield 25, 3) := by decide +kernel
theorem dX5_load_32 : decode cX5_load 32 = .ok (.getfield 151, 3) := by decide +kernel
theorem dX5_load_35 : decode cX5_load 35 = .ok (.iload_n 1, 1) := by decide +kernel
theorem dX5_load_36 : decode cX5_load 36 = .ok (.iaload, 1) := by decide +kernel
theorem dX5_load_37 : decode cX5_load 37 = .ok (.iconst 0, 1) := by decide +kernel
theorem dX5_load_38 : decode cX5_load 38 = .ok (.invokevirtual 131, 3) := by decide +kernel
theorem dX5_load_41 : decode cX5_load 41 = .ok (.aload_n 0, 1) := by decide +kernel
theorem dX5_load_42 : decode cX5_load 42 = .ok (.getfield 25, 3) := by decide +kernel
theorem dX5_load_45 : decode cX5_load 45 = .ok (.getfield 151, 3) := by decide +kernel
theorem dX5_load_48 : decode cX5_load 48 = .ok (.iload_n 1, 1) := by decide +kernel
theorem dX5_load_49 : decode cX5_load 49 = .ok (.iload_n 2, 1) := by decide +kernel
theorem dX5_load_50 : decode cX5_load 50 = .ok (.iastore, 1) := by decide +kernel
theorem dX5_load_51 : decode cX5_load 51 = .ok (.aload_n 0, 1) := by decide +kernel
theorem dX5_load_52 : decode cX5_load 52 = .ok (.getfield 25, 3) := by decide +kernel
theorem dX5_load_55 : decode cX5_load 55 = .ok (.iload_n 1, 1) := by decide +kernel
theorem dX5_load_56 : decode cX5_load 56 = .ok (.aload_n 0, 1) := by decide +kernel
theorem dX5_load_57 : decode cX5_load 57 = .ok (.getfield 25, 3) := by decide +kernel
theorem dX5_load_60 : decode cX5_load 60 = .ok (.getfield 128, 3) := by decide +kernel
theorem dX5_load_63 : decode cX5_load 63 = .ok (.invokevirtual 154, 3) := by decide +kernel
theorem dX5_load_66 : decode cX5_load 66 = .ok (.ireturn, 1) := by decide +kernel
theorem dX5_cord_0 : decode cX5_cord 0 = .ok (.aload_n 0, 1) := by decide +kernel
theorem dX5_cord_1 : decode cX5_cord 1 = .ok (.iload_n 1, 1) := by decide +kernel
theorem dX5_cord_2 : decode cX5_cord 2 = .ok (.invokevirtual 138, 3) := by decide +kernel
theorem dX5_cord_5 : decode cX5_cord 5 = .ok (.ifCond .eq 11, 3) := by decide +kernel
theorem dX5_cord_8 : decode cX5_cord 8 = .ok (.iload_n 2, 1) := by decide +kernel
theorem dX5_cord_9 : decode cX5_cord 9 = .ok (.iconst 2, 1) := by decide +kernel
theorem dX5_cord_10 : decode cX5_cord 10 = .ok (.invokestatic 59, 3) := by decide +kernel
theorem dX5_cord_13 : decode cX5_cord 13 = .ok (.ifCond .ne 6, 3) := by decide +kernel
theorem dX5_cord_16 : decode cX5_cord 16 = .ok (.ldc 63, 2) := by decide +kernel
theorem dX5_cord_18 : decode cX5_cord 18 = .ok (.ireturn, 1) := by decide +kernel
theorem dX5_cord_19 : decode cX5_cord 19 = .ok (.aload_n 0, 1) := by decide +kernel
theorem dX5_cord_20 : decode cX5_cord 20 = .ok (.getfield 25, 3) := by decide +kernel
theorem dX5_cord_23 : decode cX5_cord 23 = .ok (.iload_n 1, 1) := by decide +kernel
theorem dX5_cord_24 : decode cX5_cord 24 = .ok (.invokevirtual 157, 3) := by decide +kernel
theorem dX5_cord_27 : decode cX5_cord 27 = .ok (.iload_n 2, 1) := by decide +kernel
theorem dX5_cord_28 : decode cX5_cord 28 = .ok (.iconst 1, 1) := by decide +kernel
theorem dX5_cord_29 : decode cX5_cord 29 = .ok (.if_icmp .ne 7, 3) := by decide +kernel
theorem dX5_cord_32 : decode cX5_cord 32 = .ok (.iconst 1, 1) := by decide +kernel
theorem dX5_cord_33 : decode cX5_cord 33 = .ok (.goto 4, 3) := by decide +kernel
theorem dX5_cord_36 : decode cX5_cord 36 = .ok (.iconst 0, 1) := by decide +kernel
theorem dX5_cord_37 : decode cX5_cord 37 = .ok (.if_icmp .ne 6, 3) := by decide +kernel
theorem dX5_cord_40 : decode cX5_cord 40 = .ok (.ldc 127, 2) := by decide +kernel
theorem dX5_cord_42 : decode cX5_cord 42 = .ok (.ireturn, 1) := by decide +kernel
theorem dX5_cord_43 : decode cX5_cord 43 = .ok (.aload_n 0, 1) := by decide +kernel
theorem dX5_cord_44 : decode cX5_cord 44 = .ok (.getfield 39, 3) := by decide +kernel
theorem dX5_cord_47 : decode cX5_cord 47 = .ok (.iconst 3, 1) := by decide +kernel
theorem dX5_cord_48 : decode cX5_cord 48 = .ok (.iload_n 1, 1) := by decide +kernel
theorem dX5_cord_49 : decode cX5_cord 49 = .ok (.iconst 0, 1) := by decide +kernel
theorem dX5_cord_50 : decode cX5_cord 50 = .ok (.iconst 0, 1) := by decide +kernel
theorem dX5_cord_51 : decode cX5_cord 51 = .ok (.invokevirtual 131, 3) := by decide +kernel
theorem dX5_cord_54 : decode cX5_cord 54 = .ok (.aload_n 0, 1) := by decide +kernel
theorem dX5_cord_55 : decode cX5_cord 55 = .ok (.getfield 25, 3) := by decide +kernel
theorem dX5_cord_58 : decode cX5_cord 58 = .ok (.dup, 1) := by decide +kernel
theorem dX5_cord_59 : decode cX5_cord 59 = .ok (.getfield 160, 3) := by decide +kernel
theorem dX5_cord_62 : decode cX5_cord 62 = .ok (.iconst 1, 1) := by decide +kernel
theorem dX5_cord_63 : decode cX5_cord 63 = .ok (.iload_n 1, 1) := by decide +kernel
theorem dX5_cord_64 : decode cX5_cord 64 = .ok (.ishl, 1) := by decide +kernel
theorem dX5_cord_65 : decode cX5_cord 65 = .ok (.ixor, 1) := by decide +kernel
theorem dX5_cord_66 : decode cX5_cord 66 = .ok (.putfield 160, 3) := by decide +kernel
theorem dX5_cord_69 : decode cX5_cord 69 = .ok (.aload_n 0, 1) := by decide +kernel
theorem dX5_cord_70 : decode cX5_cord 70 = .ok (.getfield 25, 3) := by decide +kernel
theorem dX5_cord_73 : decode cX5_cord 73 = .ok (.getfield 160, 3) := by decide +kernel
theorem dX5_cord_76 : decode cX5_cord 76 = .ok (.ireturn, 1) := by decide +kernel
theorem dX5_undo_0 : decode cX5_undo 0 = .ok (.aload_n 0, 1) := by decide +kernel
theorem dX5_undo_1 : decode cX5_undo 1 = .ok (.getfield 39, 3) := by decide +kernel
theorem dX5_undo_4 : decode cX5_undo 4 = .ok (.getfield 163, 3) := by decide +kernel
theorem dX5_undo_7 : decode cX5_undo 7 = .ok (.ifCond .ne 6, 3) := by decide +kernel
theorem dX5_undo_10 : decode cX5_undo 10 = .ok (.ldc 127, 2) := by decide +kernel
theorem dX5_undo_12 : decode cX5_undo 12 = .ok (.ireturn, 1) := by decide +kernel
theorem dX5_undo_13 : decode cX5_undo 13 = .ok (.aload_n 0, 1) := by decide +kernel
theorem dX5_undo_14 : decode cX5_undo 14 = .ok (.getfield 39, 3) := by decide +kernel
theorem dX5_undo_17 : decode cX5_undo 17 = .ok (.aload_n 0, 1) := by decide +kernel
theorem dX5_undo_18 : decode cX5_undo 18 = .ok (.getfield 25, 3) := by decide +kernel
theorem dX5_undo_21 : decode cX5_undo 21 = .ok (.invokevirtual 166, 3) := by decide +kernel
theorem dX5_undo_24 : decode cX5_undo 24 = .ok (.aload_n 0, 1) := by decide +kernel
theorem dX5_undo_25 : decode cX5_undo 25 = .ok (.getfield 39, 3) := by decide +kernel
theorem dX5_undo_28 : decode cX5_undo 28 = .ok (.getfield 163, 3) := by decide +kernel
theorem dX5_undo_31 : decode cX5_undo 31 = .ok (.ireturn, 1) := by decide +kernel
theorem dX5_hammock_0 : decode cX5_hammock 0 = .ok (.aload_n 0, 1) := by decide +kernel
theorem dX5_hammock_1 : decode cX5_hammock 1 = .ok (.iload_n 1, 1) := by decide +kernel
theorem dX5_hammock_2 : decode cX5_hammock 2 = .ok (.invokevirtual 138, 3) := by decide +kernel
theorem dX5_hammock_5 : decode cX5_hammock 5 = .ok (.ifCond .ne 6, 3) := by decide +kernel
theorem dX5_hammock_8 : decode cX5_hammock 8 = .ok (.ldc 63, 2) := by decide +kernel
theorem dX5_hammock_10 : decode cX5_hammock 10 = .ok (.ireturn, 1) := by decide +kernel
theorem dX5_hammock_11 : decode cX5_hammock 11 = .ok (.iload_n 2, 1) := by decide +kernel
theorem dX5_hammock_12 : decode cX5_hammock 12 = .ok (.tableswitch 133 0 6 #[44, 54, 64, 74, 84, 101, 117], 44) := by decide +kernel
theorem dX5_hammock_56 : decode cX5_hammock 56 = .ok (.aload_n 0, 1) := by decide +kernel
theorem dX5_hammock_57 : decode cX5_hammock 57 = .ok (.getfield 25, 3) := by decide +kernel
theorem dX5_hammock_60 : decode cX5_hammock 60 = .ok (.getfield 141, 3) := by decide +kernel
theorem dX5_hammock_63 : decode cX5_hammock 63 = .ok (.iload_n 1, 1) := by decide +kernel
theorem dX5_hammock_64 : decode cX5_hammock 64 = .ok (.iaload, 1) := by decide +kernel
theorem dX5_hammock_65 : decode cX5_hammock 65 = .ok (.ireturn, 1) := by decide +kernel
theorem dX5_hammock_66 : decode cX5_hammock 66 = .ok (.aload_n 0, 1) := by decide +kernel
theorem dX5_hammock_67 : decode cX5_hammock 67 = .ok (.getfield 25, 3) := by decide +kernel
theorem dX5_hammock_70 : decode cX5_hammock 70 = .ok (.getfield 144, 3) := by decide +kernel
theorem dX5_hammock_73 : decode cX5_hammock 73 = .ok (.iload_n 1, 1) := by decide +kernel
theorem dX5_hammock_74 : decode cX5_hammock 74 = .ok (.iaload, 1) := by decide +kernel
theorem dX5_hammock_75 : decode cX5_hammock 75 = .ok (.ireturn, 1) := by decide +kernel
theorem dX5_hammock_76 : decode cX5_hammock 76 = .ok (.aload_n 0, 1) := by decide +kernel
theorem dX5_hammock_77 : decode cX5_hammock 77 = .ok (.getfield 25, 3) := by decide +kernel
theorem dX5_hammock_80 : decode cX5_hammock 80 = .ok (.getfield 151, 3) := by decide +kernel
theorem dX5_hammock_83 : decode cX5_hammock 83 = .ok (.iload_n 1, 1) := by decide +kernel
theorem dX5_hammock_84 : decode cX5_hammock 84 = .ok (.iaload, 1) := by decide +kernel
theorem dX5_hammock_85 : decode cX5_hammock 85 = .ok (.ireturn, 1) := by decide +kernel
theorem dX5_hammock_86 : decode cX5_hammock 86 = .ok (.aload_n 0, 1) := by decide +kernel
theorem dX5_hammock_87 : decode cX5_hammock 87 = .ok (.getfield 25, 3) := by decide +kernel
theorem dX5_hammock_90 : decode cX5_hammock 90 = .ok (.getfield 169, 3) := by decide +kernel
theorem dX5_hammock_93 : decode cX5_hammock 93 = .ok (.iload_n 1, 1) := by decide +kernel
theorem dX5_hammock_94 : decode cX5_hammock 94 = .ok (.iaload, 1) := by decide +kernel
theorem dX5_hammock_95 : decode cX5_hammock 95 = .ok (.ireturn, 1) := by decide +kernel
theorem dX5_hammock_96 : decode cX5_hammock 96 = .ok (.aload_n 0, 1) := by decide +kernel
theorem dX5_hammock_97 : decode cX5_hammock 97 = .ok (.getfield 25, 3) := by decide +kernel
theorem dX5_hammock_100 : decode cX5_hammock 100 = .ok (.iload_n 1, 1) := by decide +kernel
theorem dX5_hammock_101 : decode cX5_hammock 101 = .ok (.invokevirtual 157, 3) := by decide +kernel
theorem dX5_hammock_104 : decode cX5_hammock 104 = .ok (.ifCond .eq 7, 3) := by decide +kernel
theorem dX5_hammock_107 : decode cX5_hammock 107 = .ok (.iconst 1, 1) := by decide +kernel
theorem dX5_hammock_108 : decode cX5_hammock 108 = .ok (.goto 4, 3) := by decide +kernel
theorem dX5_hammock_111 : decode cX5_hammock 111 = .ok (.iconst 0, 1) := by decide +kernel
theorem dX5_hammock_112 : decode cX5_hammock 112 = .ok (.ireturn, 1) := by decide +kernel
theorem dX5_hammock_113 : decode cX5_hammock 113 = .ok (.aload_n 0, 1) := by decide +kernel
theorem dX5_hammock_114 : decode cX5_hammock 114 = .ok (.getfield 25, 3) := by decide +kernel
theorem dX5_hammock_117 : decode cX5_hammock 117 = .ok (.iload_n 1, 1) := by decide +kernel
theorem dX5_hammock_118 : decode cX5_hammock 118 = .ok (.aload_n 0, 1) := by decide +kernel
theorem dX5_hammock_119 : decode cX5_hammock 119 = .ok (.getfield 25, 3) := by decide +kernel
theorem dX5_hammock_122 : decode cX5_hammock 122 = .ok (.getfield 128, 3) := by decide +kernel
theorem dX5_hammock_125 : decode cX5_hammock 125 = .ok (.invokevirtual 154, 3) := by decide +kernel
theorem dX5_hammock_128 : decode cX5_hammock 128 = .ok (.ireturn, 1) := by decide +kernel
theorem dX5_hammock_129 : decode cX5_hammock 129 = .ok (.aload_n 0, 1) := by decide +kernel
theorem dX5_hammock_130 : decode cX5_hammock 130 = .ok (.getfield 25, 3) := by decide +kernel
theorem dX5_hammock_133 : decode cX5_hammock 133 = .ok (.iload_n 1, 1) := by decide +kernel
theorem dX5_hammock_134 : decode cX5_hammock 134 = .ok (.aload_n 0, 1) := by decide +kernel
theorem dX5_hammock_135 : decode cX5_hammock 135 = .ok (.getfield 25, 3) := by decide +kernel
theorem dX5_hammock_138 : decode cX5_hammock 138 = .ok (.getfield 128, 3) := by decide +kernel
theorem dX5_hammock_141 : decode cX5_hammock 141 = .ok (.invokevirtual 147, 3) := by decide +kernel
theorem dX5_hammock_144 : decode cX5_hammock 144 = .ok (.ireturn, 1) := by decide +kernel
theorem dX5_hammock_145 : decode cX5_hammock 145 = .ok (.ldc 63, 2) := by decide +kernel
theorem dX5_hammock_147 : decode cX5_hammock 147 = .ok (.ireturn, 1) := by decide +kernel
theorem dX5_ahead_0 : decode cX5_ahead 0 = .ok (.aload_n 0, 1) := by decide +kernel
theorem dX5_ahead_1 : decode cX5_ahead 1 = .ok (.iload_n 1, 1) := by decide +kernel
theorem dX5_ahead_2 : decode cX5_ahead 2 = .ok (.invokevirtual 138, 3) := by decide +kernel
theorem dX5_ahead_5 : decode cX5_ahead 5 = .ok (.ifCond .eq 18, 3) := by decide +kernel
theorem dX5_ahead_8 : decode cX5_ahead 8 = .ok (.iload_n 2, 1) := by decide +kernel
theorem dX5_ahead_9 : decode cX5_ahead 9 = .ok (.invokestatic 172, 3) := by decide +kernel
theorem dX5_ahead_12 : decode cX5_ahead 12 = .ok (.ifCond .eq 11, 3) := by decide +kernel
theorem dX5_ahead_15 : decode cX5_ahead 15 = .ok (.iload_n 3, 1) := by decide +kernel
theorem dX5_ahead_16 : decode cX5_ahead 16 = .ok (.iconst 2, 1) := by decide +kernel
theorem dX5_ahead_17 : decode cX5_ahead 17 = .ok (.invokestatic 59, 3) := by decide +kernel
theorem dX5_ahead_20 : decode cX5_ahead 20 = .ok (.ifCond .ne 6, 3) := by decide +kernel
theorem dX5_ahead_23 : decode cX5_ahead 23 = .ok (.ldc 63, 2) := by decide +kernel
theorem dX5_ahead_25 : decode cX5_ahead 25 = .ok (.ireturn, 1) := by decide +kernel
theorem dX5_ahead_26 : decode cX5_ahead 26 = .ok (.aload_n 0, 1) := by decide +kernel
theorem dX5_ahead_27 : decode cX5_ahead 27 = .ok (.getfield 25, 3) := by decide +kernel
theorem dX5_ahead_30 : decode cX5_ahead 30 = .ok (.getfield 128, 3) := by decide +kernel
theorem dX5_ahead_33 : decode cX5_ahead 33 = .ok (.iload_n 2, 1) := by decide +kernel
theorem dX5_ahead_34 : decode cX5_ahead 34 = .ok (.iadd, 1) := by decide +kernel
theorem dX5_ahead_35 : decode cX5_ahead 35 = .ok (.istore 4, 2) := by decide +kernel
theorem dX5_ahead_37 : decode cX5_ahead 37 = .ok (.iload_n 3, 1) := by decide +kernel
theorem dX5_ahead_38 : decode cX5_ahead 38 = .ok (.ifCond .ne 16, 3) := by decide +kernel
theorem dX5_ahead_41 : decode cX5_ahead 41 = .ok (.aload_n 0, 1) := by decide +kernel
theorem dX5_ahead_42 : decode cX5_ahead 42 = .ok (.getfield 25, 3) := by decide +kernel
theorem dX5_ahead_45 : decode cX5_ahead 45 = .ok (.iload_n 1, 1) := by decide +kernel
theorem dX5_ahead_46 : decode cX5_ahead 46 = .ok (.iload 4, 2) := by decide +kernel
theorem dX5_ahead_48 : decode cX5_ahead 48 = .ok (.invokevirtual 147, 3) := by decide +kernel
theorem dX5_ahead_51 : decode cX5_ahead 51 = .ok (.goto 13, 3) := by decide +kernel
theorem dX5_ahead_54 : decode cX5_ahead 54 = .ok (.aload_n 0, 1) := by decide +kernel
theorem dX5_ahead_55 : decode cX5_ahead 55 = .ok (.getfield 25, 3) := by decide +kernel
theorem dX5_ahead_58 : decode cX5_ahead 58 = .ok (.iload_n 1, 1) := by decide +kernel
theorem dX5_ahead_59 : decode cX5_ahead 59 = .ok (.iload 4, 2) := by decide +kernel
theorem dX5_ahead_61 : decode cX5_ahead 61 = .ok (.invokevirtual 154, 3) := by decide +kernel
theorem dX5_ahead_64 : decode cX5_ahead 64 = .ok (.ireturn, 1) := by decide +kernel
theorem dX5_down_0 : decode cX5_down 0 = .ok (.aload_n 0, 1) := by decide +kernel
theorem dX5_down_1 : decode cX5_down 1 = .ok (.getfield 25, 3) := by decide +kernel
theorem dX5_down_4 : decode cX5_down 4 = .ok (.getfield 123, 3) := by decide +kernel
theorem dX5_down_7 : decode cX5_down 7 = .ok (.ifCond .ne 6, 3) := by decide +kernel
theorem dX5_down_10 : decode cX5_down 10 = .ok (.ldc 127, 2) := by decide +kernel
theorem dX5_down_12 : decode cX5_down 12 = .ok (.ireturn, 1) := by decide +kernel
theorem dX5_down_13 : decode cX5_down 13 = .ok (.iload_n 1, 1) := by decide +kernel
theorem dX5_down_14 : decode cX5_down 14 = .ok (.invokestatic 172, 3) := by decide +kernel
theorem dX5_down_17 : decode cX5_down 17 = .ok (.ifCond .eq 22, 3) := by decide +kernel
theorem dX5_down_20 : decode cX5_down 20 = .ok (.aload_n 0, 1) := by decide +kernel
theorem dX5_down_21 : decode cX5_down 21 = .ok (.getfield 25, 3) := by decide +kernel
theorem dX5_down_24 : decode cX5_down 24 = .ok (.aload_n 0, 1) := by decide +kernel
theorem dX5_down_25 : decode cX5_down 25 = .ok (.getfield 25, 3) := by decide +kernel
theorem dX5_down_28 : decode cX5_down 28 = .ok (.getfield 128, 3) := by decide +kernel
theorem dX5_down_31 : decode cX5_down 31 = .ok (.iload_n 1, 1) := by decide +kernel
theorem dX5_down_32 : decode cX5_down 32 = .ok (.iadd, 1) := by decide +kernel
theorem dX5_down_33 : decode cX5_down 33 = .ok (.invokevirtual 135, 3) := by decide +kernel
theorem dX5_down_36 : decode cX5_down 36 = .ok (.goto 5, 3) := by decide +kernel
theorem dX5_down_39 : decode cX5_down 39 = .ok (.ldc 63, 2) := by decide +kernel
theorem dX5_down_41 : decode cX5_down 41 = .ok (.ireturn, 1) := by decide +kernel
theorem dX5_reach_0 : decode cX5_reach 0 = .ok (.aload_n 0, 1) := by decide +kernel
theorem dX5_reach_1 : decode cX5_reach 1 = .ok (.iload_n 1, 1) := by decide +kernel
theorem dX5_reach_2 : decode cX5_reach 2 = .ok (.invokevirtual 138, 3) := by decide +kernel
theorem dX5_reach_5 : decode cX5_reach 5 = .ok (.ifCond .eq 10, 3) := by decide +kernel
theorem dX5_reach_8 : decode cX5_reach 8 = .ok (.iload_n 2, 1) := by decide +kernel
theorem dX5_reach_9 : decode cX5_reach 9 = .ok (.invokestatic 172, 3) := by decide +kernel
theorem dX5_reach_12 : decode cX5_reach 12 = .ok (.ifCond .ne 6, 3) := by decide +kernel
theorem dX5_reach_15 : decode cX5_reach 15 = .ok (.ldc 63, 2) := by decide +kernel
theorem dX5_reach_17 : decode cX5_reach 17 = .ok (.ireturn, 1) := by decide +kernel
theorem dX5_reach_18 : decode cX5_reach 18 = .ok (.aload_n 0, 1) := by decide +kernel
theorem dX5_reach_19 : decode cX5_reach 19 = .ok (.getfield 25, 3) := by decide +kernel
theorem dX5_reach_22 : decode cX5_reach 22 = .ok (.iload_n 1, 1) := by decide +kernel
theorem dX5_reach_23 : decode cX5_reach 23 = .ok (.aload_n 0, 1) := by decide +kernel
theorem dX5_reach_24 : decode cX5_reach 24 = .ok (.getfield 25, 3) := by decide +kernel
theorem dX5_reach_27 : decode cX5_reach 27 = .ok (.getfield 128, 3) := by decide +kernel
theorem dX5_reach_30 : decode cX5_reach 30 = .ok (.iload_n 2, 1) := by decide +kernel
theorem dX5_reach_31 : decode cX5_reach 31 = .ok (.iadd, 1) := by decide +kernel
theorem dX5_reach_32 : decode cX5_reach 32 = .ok (.invokevirtual 175, 3) := by decide +kernel
theorem dX5_reach_35 : decode cX5_reach 35 = .ok (.ireturn, 1) := by decide +kernel
theorem dX5_meet_0 : decode cX5_meet 0 = .ok (.aload_n 0, 1) := by decide +kernel
theorem dX5_meet_1 : decode cX5_meet 1 = .ok (.iload_n 1, 1) := by decide +kernel
theorem dX5_meet_2 : decode cX5_meet 2 = .ok (.iload_n 2, 1) := by decide +kernel
theorem dX5_meet_3 : decode cX5_meet 3 = .ok (.invokevirtual 178, 3) := by decide +kernel
theorem dX5_meet_6 : decode cX5_meet 6 = .ok (.ifCond .ne 6, 3) := by decide +kernel
theorem dX5_meet_9 : decode cX5_meet 9 = .ok (.ldc 63, 2) := by decide +kernel
theorem dX5_meet_11 : decode cX5_meet 11 = .ok (.ireturn, 1) := by decide +kernel
theorem dX5_meet_12 : decode cX5_meet 12 = .ok (.iconst 0, 1) := by decide +kernel
theorem dX5_meet_13 : decode cX5_meet 13 = .ok (.istore_n 3, 1) := by decide +kernel
theorem dX5_meet_14 : decode cX5_meet 14 = .ok (.iload_n 3, 1) := by decide +kernel
theorem dX5_meet_15 : decode cX5_meet 15 = .ok (.bipush 60, 2) := by decide +kernel
theorem dX5_meet_17 : decode cX5_meet 17 = .ok (.if_icmp .gt 55, 3) := by decide +kernel
theorem dX5_meet_20 : decode cX5_meet 20 = .ok (.aload_n 0, 1) := by decide +kernel
theorem dX5_meet_21 : decode cX5_meet 21 = .ok (.getfield 25, 3) := by decide +kernel
theorem dX5_meet_24 : decode cX5_meet 24 = .ok (.aload_n 0, 1) := by decide +kernel
theorem dX5_meet_25 : decode cX5_meet 25 = .ok (.getfield 25, 3) := by decide +kernel
theorem dX5_meet_28 : decode cX5_meet 28 = .ok (.iload_n 1, 1) := by decide +kernel
theorem dX5_meet_29 : decode cX5_meet 29 = .ok (.aload_n 0, 1) := by decide +kernel
theorem dX5_meet_30 : decode cX5_meet 30 = .ok (.getfield 25, 3) := by decide +kernel
theorem dX5_meet_33 : decode cX5_meet 33 = .ok (.getfield 128, 3) := by decide +kernel
theorem dX5_meet_36 : decode cX5_meet 36 = .ok (.iload_n 3, 1) := by decide +kernel
theorem dX5_meet_37 : decode cX5_meet 37 = .ok (.iadd, 1) := by decide +kernel
theorem dX5_meet_38 : decode cX5_meet 38 = .ok (.invokevirtual 181, 3) := by decide +kernel
theorem dX5_meet_41 : decode cX5_meet 41 = .ok (.aload_n 0, 1) := by decide +kernel
theorem dX5_meet_42 : decode cX5_meet 42 = .ok (.getfield 25, 3) := by decide +kernel
theorem dX5_meet_45 : decode cX5_meet 45 = .ok (.iload_n 2, 1) := by decide +kernel
theorem dX5_meet_46 : decode cX5_meet 46 = .ok (.aload_n 0, 1) := by decide +kernel
theorem dX5_meet_47 : decode cX5_meet 47 = .ok (.getfield 25, 3) := by decide +kernel
theorem dX5_meet_50 : decode cX5_meet 50 = .ok (.getfield 128, 3) := by decide +kernel
theorem dX5_meet_53 : decode cX5_meet 53 = .ok (.iload_n 3, 1) := by decide +kernel
theorem dX5_meet_54 : decode cX5_meet 54 = .ok (.iadd, 1) := by decide +kernel
theorem dX5_meet_55 : decode cX5_meet 55 = .ok (.invokevirtual 181, 3) := by decide +kernel
theorem dX5_meet_58 : decode cX5_meet 58 = .ok (.invokevirtual 184, 3) := by decide +kernel
theorem dX5_meet_61 : decode cX5_meet 61 = .ok (.ifCond .eq 5, 3) := by decide +kernel
theorem dX5_meet_64 : decode cX5_meet 64 = .ok (.iload_n 3, 1) := by decide +kernel
theorem dX5_meet_65 : decode cX5_meet 65 = .ok (.ireturn, 1) := by decide +kernel
theorem dX5_meet_66 : decode cX5_meet 66 = .ok (.iinc 3 1, 3) := by decide +kernel
theorem dX5_meet_69 : decode cX5_meet 69 = .ok (.goto (-55), 3) := by decide +kernel
theorem dX5_meet_72 : decode cX5_meet 72 = .ok (.ldc 187, 2) := by decide +kernel
theorem dX5_meet_74 : decode cX5_meet 74 = .ok (.ireturn, 1) := by decide +kernel
theorem dX5_soonest_0 : decode cX5_soonest 0 = .ok (.aload_n 0, 1) := by decide +kernel
theorem dX5_soonest_1 : decode cX5_soonest 1 = .ok (.iload_n 1, 1) := by decide +kernel
theorem dX5_soonest_2 : decode cX5_soonest 2 = .ok (.invokevirtual 138, 3) := by decide +kernel
theorem dX5_soonest_5 : decode cX5_soonest 5 = .ok (.ifCond .eq 11, 3) := by decide +kernel
theorem dX5_soonest_8 : decode cX5_soonest 8 = .ok (.aload_n 0, 1) := by decide +kernel
theorem dX5_soonest_9 : decode cX5_soonest 9 = .ok (.iload_n 2, 1) := by decide +kernel
theorem dX5_soonest_10 : decode cX5_soonest 10 = .ok (.invokevirtual 138, 3) := by decide +kernel
theorem dX5_soonest_13 : decode cX5_soonest 13 = .ok (.ifCond .ne 6, 3) := by decide +kernel
theorem dX5_soonest_16 : decode cX5_soonest 16 = .ok (.ldc 63, 2) := by decide +kernel
theorem dX5_soonest_18 : decode cX5_soonest 18 = .ok (.ireturn, 1) := by decide +kernel
theorem dX5_soonest_19 : decode cX5_soonest 19 = .ok (.aload_n 0, 1) := by decide +kernel
theorem dX5_soonest_20 : decode cX5_soonest 20 = .ok (.getfield 46, 3) := by decide +kernel
theorem dX5_soonest_23 : decode cX5_soonest 23 = .ok (.aload_n 0, 1) := by decide +kernel
theorem dX5_soonest_24 : decode cX5_soonest 24 = .ok (.getfield 25, 3) := by decide +kernel
theorem dX5_soonest_27 : decode cX5_soonest 27 = .ok (.bipush 60, 2) := by decide +kernel
theorem dX5_soonest_29 : decode cX5_soonest 29 = .ok (.invokevirtual 188, 3) := by decide +kernel
theorem dX5_soonest_32 : decode cX5_soonest 32 = .ok (.aload_n 0, 1) := by decide +kernel
theorem dX5_soonest_33 : decode cX5_soonest 33 = .ok (.getfield 46, 3) := by decide +kernel
theorem dX5_soonest_36 : decode cX5_soonest 36 = .ok (.iload_n 1, 1) := by decide +kernel
theorem dX5_soonest_37 : decode cX5_soonest 37 = .ok (.iload_n 2, 1) := by decide +kernel
theorem dX5_soonest_38 : decode cX5_soonest 38 = .ok (.bipush 60, 2) := by decide +kernel
theorem dX5_soonest_40 : decode cX5_soonest 40 = .ok (.iconst 0, 1) := by decide +kernel
theorem dX5_soonest_41 : decode cX5_soonest 41 = .ok (.invokevirtual 192, 3) := by decide +kernel
theorem dX5_soonest_44 : decode cX5_soonest 44 = .ok (.ireturn, 1) := by decide +kernel
theorem dX5_hands_0 : decode cX5_hands 0 = .ok (.aload_n 0, 1) := by decide +kernel
theorem dX5_hands_1 : decode cX5_hands 1 = .ok (.iload_n 1, 1) := by decide +kernel
theorem dX5_hands_2 : decode cX5_hands 2 = .ok (.invokevirtual 138, 3) := by decide +kernel
theorem dX5_hands_5 : decode cX5_hands 5 = .ok (.ifCond .eq 11, 3) := by decide +kernel
theorem dX5_hands_8 : decode cX5_hands 8 = .ok (.aload_n 0, 1) := by decide +kernel
theorem dX5_hands_9 : decode cX5_hands 9 = .ok (.iload_n 2, 1) := by decide +kernel
theorem dX5_hands_10 : decode cX5_hands 10 = .ok (.invokevirtual 138, 3) := by decide +kernel
theorem dX5_hands_13 : decode cX5_hands 13 = .ok (.ifCond .ne 6, 3) := by decide +kernel
theorem dX5_hands_16 : decode cX5_hands 16 = .ok (.ldc 63, 2) := by decide +kernel
theorem dX5_hands_18 : decode cX5_hands 18 = .ok (.ireturn, 1) := by decide +kernel
theorem dX5_hands_19 : decode cX5_hands 19 = .ok (.aload_n 0, 1) := by decide +kernel
theorem dX5_hands_20 : decode cX5_hands 20 = .ok (.getfield 46, 3) := by decide +kernel
theorem dX5_hands_23 : decode cX5_hands 23 = .ok (.aload_n 0, 1) := by decide +kernel
theorem dX5_hands_24 : decode cX5_hands 24 = .ok (.getfield 25, 3) := by decide +kernel
theorem dX5_hands_27 : decode cX5_hands 27 = .ok (.bipush 60, 2) := by decide +kernel
theorem dX5_hands_29 : decode cX5_hands 29 = .ok (.invokevirtual 188, 3) := by decide +kernel
theorem dX5_hands_32 : decode cX5_hands 32 = .ok (.aload_n 0, 1) := by decide +kernel
theorem dX5_hands_33 : decode cX5_hands 33 = .ok (.getfield 46, 3) := by decide +kernel
theorem dX5_hands_36 : decode cX5_hands 36 = .ok (.iload_n 1, 1) := by decide +kernel
theorem dX5_hands_37 : decode cX5_hands 37 = .ok (.iload_n 2, 1) := by decide +kernel
theorem dX5_hands_38 : decode cX5_hands 38 = .ok (.invokevirtual 196, 3) := by decide +kernel
theorem dX5_hands_41 : decode cX5_hands 41 = .ok (.ireturn, 1) := by decide +kernel
theorem dX5_everywhere_0 : decode cX5_everywhere 0 = .ok (.aload_n 0, 1) := by decide +kernel
theorem dX5_everywhere_1 : decode cX5_everywhere 1 = .ok (.iload_n 1, 1) := by decide +kernel
theorem dX5_everywhere_2 : decode cX5_everywhere 2 = .ok (.invokevirtual 138, 3) := by decide +kernel
theorem dX5_everywhere_5 : decode cX5_everywhere 5 = .ok (.ifCond .eq 10, 3) := by decide +kernel
theorem dX5_everywhere_8 : decode cX5_everywhere 8 = .ok (.iload_n 2, 1) := by decide +kernel
theorem dX5_everywhere_9 : decode cX5_everywhere 9 = .ok (.invokestatic 172, 3) := by decide +kernel
theorem dX5_everywhere_12 : decode cX5_everywhere 12 = .ok (.ifCond .ne 6, 3) := by decide +kernel
theorem dX5_everywhere_15 : decode cX5_everywhere 15 = .ok (.ldc 63, 2) := by decide +kernel
theorem dX5_everywhere_17 : decode cX5_everywhere 17 = .ok (.ireturn, 1) := by decide +kernel
theorem dX5_everywhere_18 : decode cX5_everywhere 18 = .ok (.aload_n 0, 1) := by decide +kernel
theorem dX5_everywhere_19 : decode cX5_everywhere 19 = .ok (.getfield 46, 3) := by decide +kernel
theorem dX5_everywhere_22 : decode cX5_everywhere 22 = .ok (.aload_n 0, 1) := by decide +kernel
theorem dX5_everywhere_23 : decode cX5_everywhere 23 = .ok (.getfield 25, 3) := by decide +kernel
theorem dX5_everywhere_26 : decode cX5_everywhere 26 = .ok (.iload_n 2, 1) := by decide +kernel
theorem dX5_everywhere_27 : decode cX5_everywhere 27 = .ok (.invokevirtual 188, 3) := by decide +kernel
theorem dX5_everywhere_30 : decode cX5_everywhere 30 = .ok (.aload_n 0, 1) := by decide +kernel
theorem dX5_everywhere_31 : decode cX5_everywhere 31 = .ok (.getfield 46, 3) := by decide +kernel
theorem dX5_everywhere_34 : decode cX5_everywhere 34 = .ok (.iload_n 1, 1) := by decide +kernel
theorem dX5_everywhere_35 : decode cX5_everywhere 35 = .ok (.iload_n 2, 1) := by decide +kernel
theorem dX5_everywhere_36 : decode cX5_everywhere 36 = .ok (.invokevirtual 199, 3) := by decide +kernel
theorem dX5_everywhere_39 : decode cX5_everywhere 39 = .ok (.ireturn, 1) := by decide +kernel
theorem dX5_stops_0 : decode cX5_stops 0 = .ok (.aload_n 0, 1) := by decide +kernel
theorem dX5_stops_1 : decode cX5_stops 1 = .ok (.iload_n 1, 1) := by decide +kernel
theorem dX5_stops_2 : decode cX5_stops 2 = .ok (.iload_n 2, 1) := by decide +kernel
theorem dX5_stops_3 : decode cX5_stops 3 = .ok (.invokevirtual 178, 3) := by decide +kernel
theorem dX5_stops_6 : decode cX5_stops 6 = .ok (.ifCond .eq 10, 3) := by decide +kernel
theorem dX5_stops_9 : decode cX5_stops 9 = .ok (.iload_n 3, 1) := by decide +kernel
theorem dX5_stops_10 : decode cX5_stops 10 = .ok (.invokestatic 172, 3) := by decide +kernel
theorem dX5_stops_13 : decode cX5_stops 13 = .ok (.ifCond .ne 6, 3) := by decide +kernel
theorem dX5_stops_16 : decode cX5_stops 16 = .ok (.ldc 63, 2) := by decide +kernel
theorem dX5_stops_18 : decode cX5_stops 18 = .ok (.ireturn, 1) := by decide +kernel
theorem dX5_stops_19 : decode cX5_stops 19 = .ok (.aload_n 0, 1) := by decide +kernel
theorem dX5_stops_20 : decode cX5_stops 20 = .ok (.getfield 46, 3) := by decide +kernel
theorem dX5_stops_23 : decode cX5_stops 23 = .ok (.aload_n 0, 1) := by decide +kernel
theorem dX5_stops_24 : decode cX5_stops 24 = .ok (.getfield 25, 3) := by decide +kernel
theorem dX5_stops_27 : decode cX5_stops 27 = .ok (.iload_n 3, 1) := by decide +kernel
theorem dX5_stops_28 : decode cX5_stops 28 = .ok (.invokevirtual 188, 3) := by decide +kernel
theorem dX5_stops_31 : decode cX5_stops 31 = .ok (.aload_n 0, 1) := by decide +kernel
theorem dX5_stops_32 : decode cX5_stops 32 = .ok (.getfield 46, 3) := by decide +kernel
theorem dX5_stops_35 : decode cX5_stops 35 = .ok (.iload_n 1, 1) := by decide +kernel
theorem dX5_stops_36 : decode cX5_stops 36 = .ok (.iload_n 2, 1) := by decide +kernel
theorem dX5_stops_37 : decode cX5_stops 37 = .ok (.iload_n 3, 1) := by decide +kernel
theorem dX5_stops_38 : decode cX5_stops 38 = .ok (.iconst 0, 1) := by decide +kernel
theorem dX5_stops_39 : decode cX5_stops 39 = .ok (.invokevirtual 192, 3) := by decide +kernel
theorem dX5_stops_42 : decode cX5_stops 42 = .ok (.ldc 187, 2) := by decide +kernel
theorem dX5_stops_44 : decode cX5_stops 44 = .ok (.if_icmp .ne 5, 3) := by decide +kernel
theorem dX5_stops_47 : decode cX5_stops 47 = .ok (.iconst 0, 1) := by decide +kernel
theorem dX5_stops_48 : decode cX5_stops 48 = .ok (.ireturn, 1) := by decide +kernel
theorem dX5_stops_49 : decode cX5_stops 49 = .ok (.iconst 0, 1) := by decide +kernel
theorem dX5_stops_50 : decode cX5_stops 50 = .ok (.istore 4, 2) := by decide +kernel
theorem dX5_stops_52 : decode cX5_stops 52 = .ok (.iconst 0, 1) := by decide +kernel
theorem dX5_stops_53 : decode cX5_stops 53 = .ok (.istore 5, 2) := by decide +kernel
theorem dX5_stops_55 : decode cX5_stops 55 = .ok (.iload 5, 2) := by decide +kernel
theorem dX5_stops_57 : decode cX5_stops 57 = .ok (.aload_n 0, 1) := by decide +kernel
theorem dX5_stops_58 : decode cX5_stops 58 = .ok (.getfield 25, 3) := by decide +kernel
theorem dX5_stops_61 : decode cX5_stops 61 = .ok (.getfield 119, 3) := by decide +kernel
theorem dX5_stops_64 : decode cX5_stops 64 = .ok (.if_icmp .ge 49, 3) := by decide +kernel
theorem dX5_stops_67 : decode cX5_stops 67 = .ok (.iload 5, 2) := by decide +kernel
theorem dX5_stops_69 : decode cX5_stops 69 = .ok (.iload_n 1, 1) := by decide +kernel
theorem dX5_stops_70 : decode cX5_stops 70 = .ok (.if_icmp .eq 37, 3) := by decide +kernel
theorem dX5_stops_73 : decode cX5_stops 73 = .ok (.iload 5, 2) := by decide +kernel
theorem dX5_stops_75 : decode cX5_stops 75 = .ok (.iload_n 2, 1) := by decide +kernel
theorem dX5_stops_76 : decode cX5_stops 76 = .ok (.if_icmp .eq 31, 3) := by decide +kernel
theorem dX5_stops_79 : decode cX5_stops 79 = .ok (.aload_n 0, 1) := by decide +kernel
theorem dX5_stops_80 : decode cX5_stops 80 = .ok (.getfield 46, 3) := by decide +kernel
theorem dX5_stops_83 : decode cX5_stops 83 = .ok (.iload_n 1, 1) := by decide +kernel
theorem dX5_stops_84 : decode cX5_stops 84 = .ok (.iload_n 2, 1) := by decide +kernel
theorem dX5_stops_85 : decode cX5_stops 85 = .ok (.iload_n 3, 1) := by decide +kernel
theorem dX5_stops_86 : decode cX5_stops 86 = .ok (.iconst 1, 1) := by decide +kernel
theorem dX5_stops_87 : decode cX5_stops 87 = .ok (.iload 5, 2) := by decide +kernel
theorem dX5_stops_89 : decode cX5_stops 89 = .ok (.ishl, 1) := by decide +kernel
theorem dX5_stops_90 : decode cX5_stops 90 = .ok (.invokevirtual 192, 3) := by decide +kernel
theorem dX5_stops_93 : decode cX5_stops 93 = .ok (.ldc 187, 2) := by decide +kernel
theorem dX5_stops_95 : decode cX5_stops 95 = .ok (.if_icmp .ne 12, 3) := by decide +kernel
theorem dX5_stops_98 : decode cX5_stops 98 = .ok (.iload 4, 2) := by decide +kernel
theorem dX5_stops_100 : decode cX5_stops 100 = .ok (.iconst 1, 1) := by decide +kernel
theorem dX5_stops_101 : decode cX5_stops 101 = .ok (.iload 5, 2) := by decide +kernel
theorem dX5_stops_103 : decode cX5_stops 103 = .ok (.ishl, 1) := by decide +kernel
theorem dX5_stops_104 : decode cX5_stops 104 = .ok (.ior, 1) := by decide +kernel
theorem dX5_stops_105 : decode cX5_stops 105 = .ok (.istore 4, 2) := by decide +kernel
theorem dX5_stops_107 : decode cX5_stops 107 = .ok (.iinc 5 1, 3) := by decide +kernel
theorem dX5_stops_110 : decode cX5_stops 110 = .ok (.goto (-55), 3) := by decide +kernel
theorem dX5_stops_113 : decode cX5_stops 113 = .ok (.iload 4, 2) := by decide +kernel
theorem dX5_stops_115 : decode cX5_stops 115 = .ok (.ireturn, 1) := by decide +kernel
theorem dX5_toSling_0 : decode cX5_toSling 0 = .ok (.aload_n 0, 1) := by decide +kernel
theorem dX5_toSling_1 : decode cX5_toSling 1 = .ok (.iload_n 2, 1) := by decide +kernel
theorem dX5_toSling_2 : decode cX5_toSling 2 = .ok (.iload_n 3, 1) := by decide +kernel
theorem dX5_toSling_3 : decode cX5_toSling 3 = .ok (.invokevirtual 178, 3) := by decide +kernel
theorem dX5_toSling_6 : decode cX5_toSling 6 = .ok (.ifCond .eq 30, 3) := by decide +kernel
theorem dX5_toSling_9 : decode cX5_toSling 9 = .ok (.aload_n 0, 1) := by decide +kernel
theorem dX5_toSling_10 : decode cX5_toSling 10 = .ok (.iload_n 2, 1) := by decide +kernel
theorem dX5_toSling_11 : decode cX5_toSling 11 = .ok (.iload_n 1, 1) := by decide +kernel
theorem dX5_toSling_12 : decode cX5_toSling 12 = .ok (.invokevirtual 178, 3) := by decide +kernel
theorem dX5_toSling_15 : decode cX5_toSling 15 = .ok (.ifCond .eq 21, 3) := by decide +kernel
theorem dX5_toSling_18 : decode cX5_toSling 18 = .ok (.aload_n 0, 1) := by decide +kernel
theorem dX5_toSling_19 : decode cX5_toSling 19 = .ok (.iload_n 3, 1) := by decide +kernel
theorem dX5_toSling_20 : decode cX5_toSling 20 = .ok (.iload_n 1, 1) := by decide +kernel
theorem dX5_toSling_21 : decode cX5_toSling 21 = .ok (.invokevirtual 178, 3) := by decide +kernel
theorem dX5_toSling_24 : decode cX5_toSling 24 = .ok (.ifCond .eq 12, 3) := by decide +kernel
theorem dX5_toSling_27 : decode cX5_toSling 27 = .ok (.iload 4, 2) := by decide +kernel
theorem dX5_toSling_29 : decode cX5_toSling 29 = .ok (.iconst 2, 1) := by decide +kernel
theorem dX5_toSling_30 : decode cX5_toSling 30 = .ok (.invokestatic 59, 3) := by decide +kernel
theorem dX5_toSling_33 : decode cX5_toSling 33 = .ok (.ifCond .ne 6, 3) := by decide +kernel
theorem dX5_toSling_36 : decode cX5_toSling 36 = .ok (.ldc 63, 2) := by decide +kernel
theorem dX5_toSling_38 : decode cX5_toSling 38 = .ok (.ireturn, 1) := by decide +kernel
theorem dX5_toSling_39 : decode cX5_toSling 39 = .ok (.aload_n 0, 1) := by decide +kernel
theorem dX5_toSling_40 : decode cX5_toSling 40 = .ok (.getfield 29, 3) := by decide +kernel
theorem dX5_toSling_43 : decode cX5_toSling 43 = .ok (.aload_n 0, 1) := by decide +kernel
theorem dX5_toSling_44 : decode cX5_toSling 44 = .ok (.getfield 25, 3) := by decide +kernel
theorem dX5_toSling_47 : decode cX5_toSling 47 = .ok (.invokevirtual 112, 3) := by decide +kernel
theorem dX5_toSling_50 : decode cX5_toSling 50 = .ok (.aload_n 0, 1) := by decide +kernel
theorem dX5_toSling_51 : decode cX5_toSling 51 = .ok (.getfield 46, 3) := by decide +kernel
theorem dX5_toSling_54 : decode cX5_toSling 54 = .ok (.aload_n 0, 1) := by decide +kernel
theorem dX5_toSling_55 : decode cX5_toSling 55 = .ok (.getfield 29, 3) := by decide +kernel
theorem dX5_toSling_58 : decode cX5_toSling 58 = .ok (.bipush 60, 2) := by decide +kernel
theorem dX5_toSling_60 : decode cX5_toSling 60 = .ok (.invokevirtual 188, 3) := by decide +kernel
theorem dX5_toSling_63 : decode cX5_toSling 63 = .ok (.aload_n 0, 1) := by decide +kernel
theorem dX5_toSling_64 : decode cX5_toSling 64 = .ok (.getfield 46, 3) := by decide +kernel
theorem dX5_toSling_67 : decode cX5_toSling 67 = .ok (.iload_n 2, 1) := by decide +kernel
theorem dX5_toSling_68 : decode cX5_toSling 68 = .ok (.iload_n 3, 1) := by decide +kernel
theorem dX5_toSling_69 : decode cX5_toSling 69 = .ok (.bipush 60, 2) := by decide +kernel
theorem dX5_toSling_71 : decode cX5_toSling 71 = .ok (.iconst 0, 1) := by decide +kernel
theorem dX5_toSling_72 : decode cX5_toSling 72 = .ok (.invokevirtual 192, 3) := by decide +kernel
theorem dX5_toSling_75 : decode cX5_toSling 75 = .ok (.istore 5, 2) := by decide +kernel
theorem dX5_toSling_77 : decode cX5_toSling 77 = .ok (.bipush 12, 2) := by decide +kernel
theorem dX5_toSling_79 : decode cX5_toSling 79 = .ok (.aload_n 0, 1) := by decide +kernel
theorem dX5_toSling_80 : decode cX5_toSling 80 = .ok (.getfield 25, 3) := by decide +kernel
theorem dX5_toSling_83 : decode cX5_toSling 83 = .ok (.getfield 141, 3) := by decide +kernel
theorem dX5_toSling_86 : decode cX5_toSling 86 = .ok (.iload_n 1, 1) := by decide +kernel
theorem dX5_toSling_87 : decode cX5_toSling 87 = .ok (.iaload, 1) := by decide +kernel
theorem dX5_toSling_88 : decode cX5_toSling 88 = .ok (.imul, 1) := by decide +kernel
theorem dX5_toSling_89 : decode cX5_toSling 89 = .ok (.aload_n 0, 1) := by decide +kernel
theorem dX5_toSling_90 : decode cX5_toSling 90 = .ok (.getfield 25, 3) := by decide +kernel
theorem dX5_toSling_93 : decode cX5_toSling 93 = .ok (.getfield 144, 3) := by decide +kernel
theorem dX5_toSling_96 : decode cX5_toSling 96 = .ok (.iload_n 1, 1) := by decide +kernel
theorem dX5_toSling_97 : decode cX5_toSling 97 = .ok (.iaload, 1) := by decide +kernel
theorem dX5_toSling_98 : decode cX5_toSling 98 = .ok (.iadd, 1) := by decide +kernel
theorem dX5_toSling_99 : decode cX5_toSling 99 = .ok (.istore 6, 2) := by decide +kernel
theorem dX5_toSling_101 : decode cX5_toSling 101 = .ok (.iconst 1, 1) := by decide +kernel
theorem dX5_toSling_102 : decode cX5_toSling 102 = .ok (.istore 7, 2) := by decide +kernel
theorem dX5_toSling_104 : decode cX5_toSling 104 = .ok (.iload 7, 2) := by decide +kernel
theorem dX5_toSling_106 : decode cX5_toSling 106 = .ok (.sipush 144, 3) := by decide +kernel
theorem dX5_toSling_109 : decode cX5_toSling 109 = .ok (.if_icmp .ge 114, 3) := by decide +kernel
theorem dX5_toSling_112 : decode cX5_toSling 112 = .ok (.iload 7, 2) := by decide +kernel
theorem dX5_toSling_114 : decode cX5_toSling 114 = .ok (.bipush 12, 2) := by decide +kernel
theorem dX5_toSling_116 : decode cX5_toSling 116 = .ok (.idiv, 1) := by decide +kernel
theorem dX5_toSling_117 : decode cX5_toSling 117 = .ok (.iload 7, 2) := by decide +kernel
theorem dX5_toSling_119 : decode cX5_toSling 119 = .ok (.bipush 12, 2) := by decide +kernel
theorem dX5_toSling_121 : decode cX5_toSling 121 = .ok (.irem, 1) := by decide +kernel
theorem dX5_toSling_122 : decode cX5_toSling 122 = .ok (.if_icmp .lt 6, 3) := by decide +kernel
theorem dX5_toSling_125 : decode cX5_toSling 125 = .ok (.goto 92, 3) := by decide +kernel
theorem dX5_toSling_128 : decode cX5_toSling 128 = .ok (.aload_n 0, 1) := by decide +kernel
theorem dX5_toSling_129 : decode cX5_toSling 129 = .ok (.getfield 29, 3) := by decide +kernel
theorem dX5_toSling_132 : decode cX5_toSling 132 = .ok (.getfield 141, 3) := by decide +kernel
theorem dX5_toSling_135 : decode cX5_toSling 135 = .ok (.iload_n 1, 1) := by decide +kernel
theorem dX5_toSling_136 : decode cX5_toSling 136 = .ok (.iload 7, 2) := by decide +kernel
theorem dX5_toSling_138 : decode cX5_toSling 138 = .ok (.bipush 12, 2) := by decide +kernel
theorem dX5_toSling_140 : decode cX5_toSling 140 = .ok (.idiv, 1) := by decide +kernel
theorem dX5_toSling_141 : decode cX5_toSling 141 = .ok (.iastore, 1) := by decide +kernel
theorem dX5_toSling_142 : decode cX5_toSling 142 = .ok (.aload_n 0, 1) := by decide +kernel
theorem dX5_toSling_143 : decode cX5_toSling 143 = .ok (.getfield 29, 3) := by decide +kernel
theorem dX5_toSling_146 : decode cX5_toSling 146 = .ok (.getfield 144, 3) := by decide +kernel
theorem dX5_toSling_149 : decode cX5_toSling 149 = .ok (.iload_n 1, 1) := by decide +kernel
theorem dX5_toSling_150 : decode cX5_toSling 150 = .ok (.iload 7, 2) := by decide +kernel
theorem dX5_toSling_152 : decode cX5_toSling 152 = .ok (.bipush 12, 2) := by decide +kernel
theorem dX5_toSling_154 : decode cX5_toSling 154 = .ok (.irem, 1) := by decide +kernel
theorem dX5_toSling_155 : decode cX5_toSling 155 = .ok (.iastore, 1) := by decide +kernel
theorem dX5_toSling_156 : decode cX5_toSling 156 = .ok (.iload 5, 2) := by decide +kernel
theorem dX5_toSling_158 : decode cX5_toSling 158 = .ok (.ldc 187, 2) := by decide +kernel
theorem dX5_toSling_160 : decode cX5_toSling 160 = .ok (.if_icmp .ne 8, 3) := by decide +kernel
theorem dX5_toSling_163 : decode cX5_toSling 163 = .ok (.bipush 60, 2) := by decide +kernel
theorem dX5_toSling_165 : decode cX5_toSling 165 = .ok (.goto 7, 3) := by decide +kernel
theorem dX5_toSling_168 : decode cX5_toSling 168 = .ok (.iload 5, 2) := by decide +kernel
theorem dX5_toSling_170 : decode cX5_toSling 170 = .ok (.iconst 1, 1) := by decide +kernel
theorem dX5_toSling_171 : decode cX5_toSling 171 = .ok (.isub, 1) := by decide +kernel
theorem dX5_toSling_172 : decode cX5_toSling 172 = .ok (.istore 8, 2) := by decide +kernel
theorem dX5_toSling_174 : decode cX5_toSling 174 = .ok (.aload_n 0, 1) := by decide +kernel
theorem dX5_toSling_175 : decode cX5_toSling 175 = .ok (.getfield 46, 3) := by decide +kernel
theorem dX5_toSling_178 : decode cX5_toSling 178 = .ok (.aload_n 0, 1) := by decide +kernel
theorem dX5_toSling_179 : decode cX5_toSling 179 = .ok (.getfield 29, 3) := by decide +kernel
theorem dX5_toSling_182 : decode cX5_toSling 182 = .ok (.iload_n 1, 1) := by decide +kernel
theorem dX5_toSling_183 : decode cX5_toSling 183 = .ok (.iload 8, 2) := by decide +kernel
theorem dX5_toSling_185 : decode cX5_toSling 185 = .ok (.invokevirtual 202, 3) := by decide +kernel
theorem dX5_toSling_188 : decode cX5_toSling 188 = .ok (.aload_n 0, 1) := by decide +kernel
theorem dX5_toSling_189 : decode cX5_toSling 189 = .ok (.getfield 46, 3) := by decide +kernel
theorem dX5_toSling_192 : decode cX5_toSling 192 = .ok (.iload_n 2, 1) := by decide +kernel
theorem dX5_toSling_193 : decode cX5_toSling 193 = .ok (.iload_n 3, 1) := by decide +kernel
theorem dX5_toSling_194 : decode cX5_toSling 194 = .ok (.iload 8, 2) := by decide +kernel
theorem dX5_toSling_196 : decode cX5_toSling 196 = .ok (.iconst 0, 1) := by decide +kernel
theorem dX5_toSling_197 : decode cX5_toSling 197 = .ok (.invokevirtual 192, 3) := by decide +kernel
theorem dX5_toSling_200 : decode cX5_toSling 200 = .ok (.istore 9, 2) := by decide +kernel
theorem dX5_toSling_202 : decode cX5_toSling 202 = .ok (.iload 9, 2) := by decide +kernel
theorem dX5_toSling_204 : decode cX5_toSling 204 = .ok (.ldc 187, 2) := by decide +kernel
theorem dX5_toSling_206 : decode cX5_toSling 206 = .ok (.if_icmp .eq 11, 3) := by decide +kernel
theorem dX5_toSling_209 : decode cX5_toSling 209 = .ok (.iload 9, 2) := by decide +kernel
theorem dX5_toSling_211 : decode cX5_toSling 211 = .ok (.istore 5, 2) := by decide +kernel
theorem dX5_toSling_213 : decode cX5_toSling 213 = .ok (.iload 7, 2) := by decide +kernel
theorem dX5_toSling_215 : decode cX5_toSling 215 = .ok (.istore 6, 2) := by decide +kernel
theorem dX5_toSling_217 : decode cX5_toSling 217 = .ok (.iinc 7 1, 3) := by decide +kernel
theorem dX5_toSling_220 : decode cX5_toSling 220 = .ok (.goto (-116), 3) := by decide +kernel
theorem dX5_toSling_223 : decode cX5_toSling 223 = .ok (.iload 5, 2) := by decide +kernel
theorem dX5_toSling_225 : decode cX5_toSling 225 = .ok (.ldc 187, 2) := by decide +kernel
theorem dX5_toSling_227 : decode cX5_toSling 227 = .ok (.if_icmp .eq 9, 3) := by decide +kernel
theorem dX5_toSling_230 : decode cX5_toSling 230 = .ok (.iload 4, 2) := by decide +kernel
theorem dX5_toSling_232 : decode cX5_toSling 232 = .ok (.iconst 1, 1) := by decide +kernel
theorem dX5_toSling_233 : decode cX5_toSling 233 = .ok (.if_icmp .ne 8, 3) := by decide +kernel
theorem dX5_toSling_236 : decode cX5_toSling 236 = .ok (.iload 5, 2) := by decide +kernel
theorem dX5_toSling_238 : decode cX5_toSling 238 = .ok (.goto 5, 3) := by decide +kernel
theorem dX5_toSling_241 : decode cX5_toSling 241 = .ok (.iload 6, 2) := by decide +kernel
theorem dX5_toSling_243 : decode cX5_toSling 243 = .ok (.ireturn, 1) := by decide +kernel
theorem dX5_fits_0 : decode cX5_fits 0 = .ok (.aload_n 0, 1) := by decide +kernel
theorem dX5_fits_1 : decode cX5_fits 1 = .ok (.iload_n 1, 1) := by decide +kernel
theorem dX5_fits_2 : decode cX5_fits 2 = .ok (.invokevirtual 138, 3) := by decide +kernel
theorem dX5_fits_5 : decode cX5_fits 5 = .ok (.ifCond .eq 32, 3) := by decide +kernel
theorem dX5_fits_8 : decode cX5_fits 8 = .ok (.iload_n 2, 1) := by decide +kernel
theorem dX5_fits_9 : decode cX5_fits 9 = .ok (.invokestatic 55, 3) := by decide +kernel
theorem dX5_fits_12 : decode cX5_fits 12 = .ok (.ifCond .eq 25, 3) := by decide +kernel
theorem dX5_fits_15 : decode cX5_fits 15 = .ok (.iload 4, 2) := by decide +kernel
theorem dX5_fits_17 : decode cX5_fits 17 = .ok (.iconst 1, 1) := by decide +kernel
theorem dX5_fits_18 : decode cX5_fits 18 = .ok (.if_icmp .lt 19, 3) := by decide +kernel
theorem dX5_fits_21 : decode cX5_fits 21 = .ok (.iload 4, 2) := by decide +kernel
theorem dX5_fits_23 : decode cX5_fits 23 = .ok (.bipush 16, 2) := by decide +kernel
theorem dX5_fits_25 : decode cX5_fits 25 = .ok (.if_icmp .gt 12, 3) := by decide +kernel
theorem dX5_fits_28 : decode cX5_fits 28 = .ok (.iload 5, 2) := by decide +kernel
theorem dX5_fits_30 : decode cX5_fits 30 = .ok (.iconst 3, 1) := by decide +kernel
theorem dX5_fits_31 : decode cX5_fits 31 = .ok (.invokestatic 59, 3) := by decide +kernel
theorem dX5_fits_34 : decode cX5_fits 34 = .ok (.ifCond .ne 6, 3) := by decide +kernel
theorem dX5_fits_37 : decode cX5_fits 37 = .ok (.ldc 63, 2) := by decide +kernel
theorem dX5_fits_39 : decode cX5_fits 39 = .ok (.ireturn, 1) := by decide +kernel
theorem dX5_fits_40 : decode cX5_fits 40 = .ok (.aload_n 0, 1) := by decide +kernel
theorem dX5_fits_41 : decode cX5_fits 41 = .ok (.getfield 11, 3) := by decide +kernel
theorem dX5_fits_44 : decode cX5_fits 44 = .ok (.iload_n 2, 1) := by decide +kernel
theorem dX5_fits_45 : decode cX5_fits 45 = .ok (.aaload, 1) := by decide +kernel
theorem dX5_fits_46 : decode cX5_fits 46 = .ok (.astore 6, 2) := by decide +kernel
theorem dX5_fits_48 : decode cX5_fits 48 = .ok (.aload 6, 2) := by decide +kernel
theorem dX5_fits_50 : decode cX5_fits 50 = .ok (.getfield 76, 3) := by decide +kernel
theorem dX5_fits_53 : decode cX5_fits 53 = .ok (.iconst (-1), 1) := by decide +kernel
theorem dX5_fits_54 : decode cX5_fits 54 = .ok (.if_icmp .ne 9, 3) := by decide +kernel
theorem dX5_fits_57 : decode cX5_fits 57 = .ok (.aload_n 0, 1) := by decide +kernel
theorem dX5_fits_58 : decode cX5_fits 58 = .ok (.iconst 1, 1) := by decide +kernel
theorem dX5_fits_59 : decode cX5_fits 59 = .ok (.invokevirtual 64, 3) := by decide +kernel
theorem dX5_fits_62 : decode cX5_fits 62 = .ok (.ireturn, 1) := by decide +kernel
theorem dX5_fits_63 : decode cX5_fits 63 = .ok (.aload 6, 2) := by decide +kernel
theorem dX5_fits_65 : decode cX5_fits 65 = .ok (.iload_n 3, 1) := by decide +kernel
theorem dX5_fits_66 : decode cX5_fits 66 = .ok (.iload 4, 2) := by decide +kernel
theorem dX5_fits_68 : decode cX5_fits 68 = .ok (.invokevirtual 88, 3) := by decide +kernel
theorem dX5_fits_71 : decode cX5_fits 71 = .ok (.ifCond .ne 9, 3) := by decide +kernel
theorem dX5_fits_74 : decode cX5_fits 74 = .ok (.aload_n 0, 1) := by decide +kernel
theorem dX5_fits_75 : decode cX5_fits 75 = .ok (.iconst 2, 1) := by decide +kernel
theorem dX5_fits_76 : decode cX5_fits 76 = .ok (.invokevirtual 64, 3) := by decide +kernel
theorem dX5_fits_79 : decode cX5_fits 79 = .ok (.ireturn, 1) := by decide +kernel
theorem dX5_fits_80 : decode cX5_fits 80 = .ok (.aload_n 0, 1) := by decide +kernel
theorem dX5_fits_81 : decode cX5_fits 81 = .ok (.iconst 0, 1) := by decide +kernel
theorem dX5_fits_82 : decode cX5_fits 82 = .ok (.putfield 68, 3) := by decide +kernel
theorem dX5_fits_85 : decode cX5_fits 85 = .ok (.aload_n 0, 1) := by decide +kernel
theorem dX5_fits_86 : decode cX5_fits 86 = .ok (.getfield 29, 3) := by decide +kernel
theorem dX5_fits_89 : decode cX5_fits 89 = .ok (.aload_n 0, 1) := by decide +kernel
theorem dX5_fits_90 : decode cX5_fits 90 = .ok (.getfield 25, 3) := by decide +kernel
theorem dX5_fits_93 : decode cX5_fits 93 = .ok (.invokevirtual 112, 3) := by decide +kernel
theorem dX5_fits_96 : decode cX5_fits 96 = .ok (.iload 5, 2) := by decide +kernel
theorem dX5_fits_98 : decode cX5_fits 98 = .ok (.lookupswitch 48 #[(0, 26), (1, 37)], 26) := by decide +kernel
theorem dX5_fits_124 : decode cX5_fits 124 = .ok (.aload_n 0, 1) := by decide +kernel
theorem dX5_fits_125 : decode cX5_fits 125 = .ok (.iload_n 1, 1) := by decide +kernel
theorem dX5_fits_126 : decode cX5_fits 126 = .ok (.aload 6, 2) := by decide +kernel
theorem dX5_fits_128 : decode cX5_fits 128 = .ok (.iload_n 3, 1) := by decide +kernel
theorem dX5_fits_129 : decode cX5_fits 129 = .ok (.iload 4, 2) := by decide +kernel
theorem dX5_fits_131 : decode cX5_fits 131 = .ok (.invokevirtual 206, 3) := by decide +kernel
theorem dX5_fits_134 : decode cX5_fits 134 = .ok (.ireturn, 1) := by decide +kernel
theorem dX5_fits_135 : decode cX5_fits 135 = .ok (.aload_n 0, 1) := by decide +kernel
theorem dX5_fits_136 : decode cX5_fits 136 = .ok (.iload_n 1, 1) := by decide +kernel
theorem dX5_fits_137 : decode cX5_fits 137 = .ok (.aload 6, 2) := by decide +kernel
theorem dX5_fits_139 : decode cX5_fits 139 = .ok (.iload_n 3, 1) := by decide +kernel
theorem dX5_fits_140 : decode cX5_fits 140 = .ok (.iload 4, 2) := by decide +kernel
theorem dX5_fits_142 : decode cX5_fits 142 = .ok (.invokevirtual 210, 3) := by decide +kernel
theorem dX5_fits_145 : decode cX5_fits 145 = .ok (.ireturn, 1) := by decide +kernel
theorem dX5_fits_146 : decode cX5_fits 146 = .ok (.aload_n 0, 1) := by decide +kernel
theorem dX5_fits_147 : decode cX5_fits 147 = .ok (.iload_n 1, 1) := by decide +kernel
theorem dX5_fits_148 : decode cX5_fits 148 = .ok (.aload 6, 2) := by decide +kernel
theorem dX5_fits_150 : decode cX5_fits 150 = .ok (.iload_n 3, 1) := by decide +kernel
theorem dX5_fits_151 : decode cX5_fits 151 = .ok (.iload 4, 2) := by decide +kernel
theorem dX5_fits_153 : decode cX5_fits 153 = .ok (.invokevirtual 213, 3) := by decide +kernel
theorem dX5_fits_156 : decode cX5_fits 156 = .ok (.ireturn, 1) := by decide +kernel
theorem dX5_breaks_0 : decode cX5_breaks 0 = .ok (.aload_n 0, 1) := by decide +kernel
theorem dX5_breaks_1 : decode cX5_breaks 1 = .ok (.iload_n 1, 1) := by decide +kernel
theorem dX5_breaks_2 : decode cX5_breaks 2 = .ok (.invokevirtual 138, 3) := by decide +kernel
theorem dX5_breaks_5 : decode cX5_breaks 5 = .ok (.ifCond .eq 18, 3) := by decide +kernel
theorem dX5_breaks_8 : decode cX5_breaks 8 = .ok (.aload_n 0, 1) := by decide +kernel
theorem dX5_breaks_9 : decode cX5_breaks 9 = .ok (.iload_n 2, 1) := by decide +kernel
theorem dX5_breaks_10 : decode cX5_breaks 10 = .ok (.invokevirtual 138, 3) := by decide +kernel
theorem dX5_breaks_13 : decode cX5_breaks 13 = .ok (.ifCond .eq 10, 3) := by decide +kernel
theorem dX5_breaks_16 : decode cX5_breaks 16 = .ok (.iload_n 3, 1) := by decide +kernel
theorem dX5_breaks_17 : decode cX5_breaks 17 = .ok (.invokestatic 172, 3) := by decide +kernel
theorem dX5_breaks_20 : decode cX5_breaks 20 = .ok (.ifCond .ne 6, 3) := by decide +kernel
theorem dX5_breaks_23 : decode cX5_breaks 23 = .ok (.ldc 63, 2) := by decide +kernel
theorem dX5_breaks_25 : decode cX5_breaks 25 = .ok (.ireturn, 1) := by decide +kernel
theorem dX5_breaks_26 : decode cX5_breaks 26 = .ok (.iload 4, 2) := by decide +kernel
theorem dX5_breaks_28 : decode cX5_breaks 28 = .ok (.ifCond .lt 19, 3) := by decide +kernel
theorem dX5_breaks_31 : decode cX5_breaks 31 = .ok (.iload 4, 2) := by decide +kernel
theorem dX5_breaks_33 : decode cX5_breaks 33 = .ok (.bipush 10, 2) := by decide +kernel
theorem dX5_breaks_35 : decode cX5_breaks 35 = .ok (.if_icmp .gt 12, 3) := by decide +kernel
theorem dX5_breaks_38 : decode cX5_breaks 38 = .ok (.iload 5, 2) := by decide +kernel
theorem dX5_breaks_40 : decode cX5_breaks 40 = .ok (.iconst 2, 1) := by decide +kernel
theorem dX5_breaks_41 : decode cX5_breaks 41 = .ok (.invokestatic 59, 3) := by decide +kernel
theorem dX5_breaks_44 : decode cX5_breaks 44 = .ok (.ifCond .ne 6, 3) := by decide +kernel
theorem dX5_breaks_47 : decode cX5_breaks 47 = .ok (.ldc 63, 2) := by decide +kernel
theorem dX5_breaks_49 : decode cX5_breaks 49 = .ok (.ireturn, 1) := by decide +kernel
theorem dX5_breaks_50 : decode cX5_breaks 50 = .ok (.aload_n 0, 1) := by decide +kernel
theorem dX5_breaks_51 : decode cX5_breaks 51 = .ok (.getfield 46, 3) := by decide +kernel
theorem dX5_breaks_54 : decode cX5_breaks 54 = .ok (.aload_n 0, 1) := by decide +kernel
theorem dX5_breaks_55 : decode cX5_breaks 55 = .ok (.getfield 25, 3) := by decide +kernel
theorem dX5_breaks_58 : decode cX5_breaks 58 = .ok (.iload_n 3, 1) := by decide +kernel
theorem dX5_breaks_59 : decode cX5_breaks 59 = .ok (.invokevirtual 188, 3) := by decide +kernel
theorem dX5_breaks_62 : decode cX5_breaks 62 = .ok (.iconst 0, 1) := by decide +kernel
theorem dX5_breaks_63 : decode cX5_breaks 63 = .ok (.istore 6, 2) := by decide +kernel
theorem dX5_breaks_65 : decode cX5_breaks 65 = .ok (.iconst 0, 1) := by decide +kernel
theorem dX5_breaks_66 : decode cX5_breaks 66 = .ok (.istore 7, 2) := by decide +kernel
theorem dX5_breaks_68 : decode cX5_breaks 68 = .ok (.iload 7, 2) := by decide +kernel
theorem dX5_breaks_70 : decode cX5_breaks 70 = .ok (.iconst 1, 1) := by decide +kernel
theorem dX5_breaks_71 : decode cX5_breaks 71 = .ok (.aload_n 0, 1) := by decide +kernel
theorem dX5_breaks_72 : decode cX5_breaks 72 = .ok (.getfield 25, 3) := by decide +kernel
theorem dX5_breaks_75 : decode cX5_breaks 75 = .ok (.getfield 119, 3) := by decide +kernel
theorem dX5_breaks_78 : decode cX5_breaks 78 = .ok (.ishl, 1) := by decide +kernel
theorem dX5_breaks_79 : decode cX5_breaks 79 = .ok (.if_icmp .ge 52, 3) := by decide +kernel
theorem dX5_breaks_82 : decode cX5_breaks 82 = .ok (.iload 7, 2) := by decide +kernel
theorem dX5_breaks_84 : decode cX5_breaks 84 = .ok (.aload_n 0, 1) := by decide +kernel
theorem dX5_breaks_85 : decode cX5_breaks 85 = .ok (.getfield 25, 3) := by decide +kernel
theorem dX5_breaks_88 : decode cX5_breaks 88 = .ok (.getfield 160, 3) := by decide +kernel
theorem dX5_breaks_91 : decode cX5_breaks 91 = .ok (.iand, 1) := by decide +kernel
theorem dX5_breaks_92 : decode cX5_breaks 92 = .ok (.ifCond .ne 33, 3) := by decide +kernel
theorem dX5_breaks_95 : decode cX5_breaks 95 = .ok (.aload_n 0, 1) := by decide +kernel
theorem dX5_breaks_96 : decode cX5_breaks 96 = .ok (.getfield 46, 3) := by decide +kernel
theorem dX5_breaks_99 : decode cX5_breaks 99 = .ok (.iload_n 1, 1) := by decide +kernel
theorem dX5_breaks_100 : decode cX5_breaks 100 = .ok (.iload_n 2, 1) := by decide +kernel
theorem dX5_breaks_101 : decode cX5_breaks 101 = .ok (.iload_n 3, 1) := by decide +kernel
theorem dX5_breaks_102 : decode cX5_breaks 102 = .ok (.iload 7, 2) := by decide +kernel
theorem dX5_breaks_104 : decode cX5_breaks 104 = .ok (.invokevirtual 192, 3) := by decide +kernel
theorem dX5_breaks_107 : decode cX5_breaks 107 = .ok (.ldc 187, 2) := by decide +kernel
theorem dX5_breaks_109 : decode cX5_breaks 109 = .ok (.if_icmp .eq 16, 3) := by decide +kernel
theorem dX5_breaks_112 : decode cX5_breaks 112 = .ok (.iload 6, 2) := by decide +kernel
theorem dX5_breaks_114 : decode cX5_breaks 114 = .ok (.aload_n 0, 1) := by decide +kernel
theorem dX5_breaks_115 : decode cX5_breaks 115 = .ok (.iload 7, 2) := by decide +kernel
theorem dX5_breaks_117 : decode cX5_breaks 117 = .ok (.iload 4, 2) := by decide +kernel
theorem dX5_breaks_119 : decode cX5_breaks 119 = .ok (.invokevirtual 216, 3) := by decide +kernel
theorem dX5_breaks_122 : decode cX5_breaks 122 = .ok (.iadd, 1) := by decide +kernel
theorem dX5_breaks_123 : decode cX5_breaks 123 = .ok (.istore 6, 2) := by decide +kernel
theorem dX5_breaks_125 : decode cX5_breaks 125 = .ok (.iinc 7 1, 3) := by decide +kernel
theorem dX5_breaks_128 : decode cX5_breaks 128 = .ok (.goto (-60), 3) := by decide +kernel
theorem dX5_breaks_131 : decode cX5_breaks 131 = .ok (.aload_n 0, 1) := by decide +kernel
theorem dX5_breaks_132 : decode cX5_breaks 132 = .ok (.invokevirtual 219, 3) := by decide +kernel
theorem dX5_breaks_135 : decode cX5_breaks 135 = .ok (.istore 7, 2) := by decide +kernel
theorem dX5_breaks_137 : decode cX5_breaks 137 = .ok (.iload 6, 2) := by decide +kernel
theorem dX5_breaks_139 : decode cX5_breaks 139 = .ok (.iload 7, 2) := by decide +kernel
theorem dX5_breaks_141 : decode cX5_breaks 141 = .ok (.invokestatic 223, 3) := by decide +kernel
theorem dX5_breaks_144 : decode cX5_breaks 144 = .ok (.istore 8, 2) := by decide +kernel
theorem dX5_breaks_146 : decode cX5_breaks 146 = .ok (.iload 8, 2) := by decide +kernel
theorem dX5_breaks_148 : decode cX5_breaks 148 = .ok (.ifCond .gt 6, 3) := by decide +kernel
theorem dX5_breaks_151 : decode cX5_breaks 151 = .ok (.ldc 63, 2) := by decide +kernel
theorem dX5_breaks_153 : decode cX5_breaks 153 = .ok (.ireturn, 1) := by decide +kernel
theorem dX5_breaks_154 : decode cX5_breaks 154 = .ok (.iload 5, 2) := by decide +kernel
theorem dX5_breaks_156 : decode cX5_breaks 156 = .ok (.ifCond .ne 11, 3) := by decide +kernel
theorem dX5_breaks_159 : decode cX5_breaks 159 = .ok (.iload 6, 2) := by decide +kernel
theorem dX5_breaks_161 : decode cX5_breaks 161 = .ok (.iload 8, 2) := by decide +kernel
theorem dX5_breaks_163 : decode cX5_breaks 163 = .ok (.idiv, 1) := by decide +kernel
theorem dX5_breaks_164 : decode cX5_breaks 164 = .ok (.goto 8, 3) := by decide +kernel
theorem dX5_breaks_167 : decode cX5_breaks 167 = .ok (.iload 7, 2) := by decide +kernel
theorem dX5_breaks_169 : decode cX5_breaks 169 = .ok (.iload 8, 2) := by decide +kernel
theorem dX5_breaks_171 : decode cX5_breaks 171 = .ok (.idiv, 1) := by decide +kernel
theorem dX5_breaks_172 : decode cX5_breaks 172 = .ok (.ireturn, 1) := by decide +kernel
theorem dX5_image_0 : decode cX5_image 0 = .ok (.iload_n 1, 1) := by decide +kernel
theorem dX5_image_1 : decode cX5_image 1 = .ok (.iconst 2, 1) := by decide +kernel
theorem dX5_image_2 : decode cX5_image 2 = .ok (.invokestatic 59, 3) := by decide +kernel
theorem dX5_image_5 : decode cX5_image 5 = .ok (.ifCond .ne 6, 3) := by decide +kernel
theorem dX5_image_8 : decode cX5_image 8 = .ok (.ldc 63, 2) := by decide +kernel
theorem dX5_image_10 : decode cX5_image 10 = .ok (.ireturn, 1) := by decide +kernel
theorem dX5_image_11 : decode cX5_image 11 = .ok (.aload_n 0, 1) := by decide +kernel
theorem dX5_image_12 : decode cX5_image 12 = .ok (.getfield 25, 3) := by decide +kernel
theorem dX5_image_15 : decode cX5_image 15 = .ok (.getfield 123, 3) := by decide +kernel
theorem dX5_image_18 : decode cX5_image 18 = .ok (.ifCond .ne 6, 3) := by decide +kernel
theorem dX5_image_21 : decode cX5_image 21 = .ok (.ldc 127, 2) := by decide +kernel
theorem dX5_image_23 : decode cX5_image 23 = .ok (.ireturn, 1) := by decide +kernel
theorem dX5_image_24 : decode cX5_image 24 = .ok (.aload_n 0, 1) := by decide +kernel
theorem dX5_image_25 : decode cX5_image 25 = .ok (.getfield 32, 3) := by decide +kernel
theorem dX5_image_28 : decode cX5_image 28 = .ok (.iload_n 1, 1) := by decide +kernel
theorem dX5_image_29 : decode cX5_image 29 = .ok (.aaload, 1) := by decide +kernel
theorem dX5_image_30 : decode cX5_image 30 = .ok (.aload_n 0, 1) := by decide +kernel
theorem dX5_image_31 : decode cX5_image 31 = .ok (.getfield 25, 3) := by decide +kernel
theorem dX5_image_34 : decode cX5_image 34 = .ok (.invokevirtual 112, 3) := by decide +kernel
theorem dX5_image_37 : decode cX5_image 37 = .ok (.iconst 1, 1) := by decide +kernel
theorem dX5_image_38 : decode cX5_image 38 = .ok (.ireturn, 1) := by decide +kernel
theorem dX5_restore_0 : decode cX5_restore 0 = .ok (.iload_n 1, 1) := by decide +kernel
theorem dX5_restore_1 : decode cX5_restore 1 = .ok (.iconst 2, 1) := by decide +kernel
theorem dX5_restore_2 : decode cX5_restore 2 = .ok (.invokestatic 59, 3) := by decide +kernel
theorem dX5_restore_5 : decode cX5_restore 5 = .ok (.ifCond .ne 6, 3) := by decide +kernel
theorem dX5_restore_8 : decode cX5_restore 8 = .ok (.ldc 63, 2) := by decide +kernel
theorem dX5_restore_10 : decode cX5_restore 10 = .ok (.ireturn, 1) := by decide +kernel
theorem dX5_restore_11 : decode cX5_restore 11 = .ok (.aload_n 0, 1) := by decide +kernel
theorem dX5_restore_12 : decode cX5_restore 12 = .ok (.getfield 32, 3) := by decide +kernel
theorem dX5_restore_15 : decode cX5_restore 15 = .ok (.iload_n 1, 1) := by decide +kernel
theorem dX5_restore_16 : decode cX5_restore 16 = .ok (.aaload, 1) := by decide +kernel
theorem dX5_restore_17 : decode cX5_restore 17 = .ok (.getfield 123, 3) := by decide +kernel
theorem dX5_restore_20 : decode cX5_restore 20 = .ok (.ifCond .ne 6, 3) := by decide +kernel
theorem dX5_restore_23 : decode cX5_restore 23 = .ok (.ldc 127, 2) := by decide +kernel
theorem dX5_restore_25 : decode cX5_restore 25 = .ok (.ireturn, 1) := by decide +kernel
theorem dX5_restore_26 : decode cX5_restore 26 = .ok (.aload_n 0, 1) := by decide +kernel
theorem dX5_restore_27 : decode cX5_restore 27 = .ok (.getfield 25, 3) := by decide +kernel
theorem dX5_restore_30 : decode cX5_restore 30 = .ok (.aload_n 0, 1) := by decide +kernel
theorem dX5_restore_31 : decode cX5_restore 31 = .ok (.getfield 32, 3) := by decide +kernel
theorem dX5_restore_34 : decode cX5_restore 34 = .ok (.iload_n 1, 1) := by decide +kernel
theorem dX5_restore_35 : decode cX5_restore 35 = .ok (.aaload, 1) := by decide +kernel
theorem dX5_restore_36 : decode cX5_restore 36 = .ok (.invokevirtual 112, 3) := by decide +kernel
theorem dX5_restore_39 : decode cX5_restore 39 = .ok (.aload_n 0, 1) := by decide +kernel
theorem dX5_restore_40 : decode cX5_restore 40 = .ok (.getfield 39, 3) := by decide +kernel
theorem dX5_restore_43 : decode cX5_restore 43 = .ok (.invokevirtual 116, 3) := by decide +kernel
theorem dX5_restore_46 : decode cX5_restore 46 = .ok (.iconst 1, 1) := by decide +kernel
theorem dX5_restore_47 : decode cX5_restore 47 = .ok (.ireturn, 1) := by decide +kernel
theorem dX5_kind_0 : decode cX5_kind 0 = .ok (.aload_n 0, 1) := by decide +kernel
theorem dX5_kind_1 : decode cX5_kind 1 = .ok (.iload_n 1, 1) := by decide +kernel
theorem dX5_kind_2 : decode cX5_kind 2 = .ok (.invokevirtual 138, 3) := by decide +kernel
theorem dX5_kind_5 : decode cX5_kind 5 = .ok (.ifCond .eq 15, 3) := by decide +kernel
theorem dX5_kind_8 : decode cX5_kind 8 = .ok (.aload_n 0, 1) := by decide +kernel
theorem dX5_kind_9 : decode cX5_kind 9 = .ok (.getfield 25, 3) := by decide +kernel
theorem dX5_kind_12 : decode cX5_kind 12 = .ok (.getfield 226, 3) := by decide +kernel
theorem dX5_kind_15 : decode cX5_kind 15 = .ok (.iload_n 1, 1) := by decide +kernel
theorem dX5_kind_16 : decode cX5_kind 16 = .ok (.iaload, 1) := by decide +kernel
theorem dX5_kind_17 : decode cX5_kind 17 = .ok (.goto 5, 3) := by decide +kernel
theorem dX5_kind_20 : decode cX5_kind 20 = .ok (.ldc 63, 2) := by decide +kernel
theorem dX5_kind_22 : decode cX5_kind 22 = .ok (.ireturn, 1) := by decide +kernel
theorem dX5_as_0 : decode cX5_as 0 = .ok (.aload_n 0, 1) := by decide +kernel
theorem dX5_as_1 : decode cX5_as 1 = .ok (.iload_n 1, 1) := by decide +kernel
theorem dX5_as_2 : decode cX5_as 2 = .ok (.invokevirtual 138, 3) := by decide +kernel
theorem dX5_as_5 : decode cX5_as 5 = .ok (.ifCond .eq 12, 3) := by decide +kernel
theorem dX5_as_8 : decode cX5_as 8 = .ok (.iload_n 2, 1) := by decide +kernel
theorem dX5_as_9 : decode cX5_as 9 = .ok (.bipush 6, 2) := by decide +kernel
theorem dX5_as_11 : decode cX5_as 11 = .ok (.invokestatic 59, 3) := by decide +kernel
theorem dX5_as_14 : decode cX5_as 14 = .ok (.ifCond .ne 6, 3) := by decide +kernel
theorem dX5_as_17 : decode cX5_as 17 = .ok (.ldc 63, 2) := by decide +kernel
theorem dX5_as_19 : decode cX5_as 19 = .ok (.ireturn, 1) := by decide +kernel
theorem dX5_as_20 : decode cX5_as 20 = .ok (.aload_n 0, 1) := by decide +kernel
theorem dX5_as_21 : decode cX5_as 21 = .ok (.getfield 25, 3) := by decide +kernel
theorem dX5_as_24 : decode cX5_as 24 = .ok (.getfield 226, 3) := by decide +kernel
theorem dX5_as_27 : decode cX5_as 27 = .ok (.iload_n 1, 1) := by decide +kernel
theorem dX5_as_28 : decode cX5_as 28 = .ok (.iaload, 1) := by decide +kernel
theorem dX5_as_29 : decode cX5_as 29 = .ok (.iload_n 2, 1) := by decide +kernel
theorem dX5_as_30 : decode cX5_as 30 = .ok (.invokestatic 229, 3) := by decide +kernel
theorem dX5_as_33 : decode cX5_as 33 = .ok (.ifCond .ne 9, 3) := by decide +kernel
theorem dX5_as_36 : decode cX5_as 36 = .ok (.aload_n 0, 1) := by decide +kernel
theorem dX5_as_37 : decode cX5_as 37 = .ok (.iconst 3, 1) := by decide +kernel
theorem dX5_as_38 : decode cX5_as 38 = .ok (.invokevirtual 64, 3) := by decide +kernel
theorem dX5_as_41 : decode cX5_as 41 = .ok (.ireturn, 1) := by decide +kernel
theorem dX5_as_42 : decode cX5_as 42 = .ok (.aload_n 0, 1) := by decide +kernel
theorem dX5_as_43 : decode cX5_as 43 = .ok (.iconst 0, 1) := by decide +kernel
theorem dX5_as_44 : decode cX5_as 44 = .ok (.putfield 68, 3) := by decide +kernel
theorem dX5_as_47 : decode cX5_as 47 = .ok (.iload_n 1, 1) := by decide +kernel
theorem dX5_as_48 : decode cX5_as 48 = .ok (.ireturn, 1) := by decide +kernel
theorem dX5_ask_0 : decode cX5_ask 0 = .ok (.aload_n 0, 1) := by decide +kernel
theorem dX5_ask_1 : decode cX5_ask 1 = .ok (.iload_n 1, 1) := by decide +kernel
theorem dX5_ask_2 : decode cX5_ask 2 = .ok (.invokevirtual 138, 3) := by decide +kernel
theorem dX5_ask_5 : decode cX5_ask 5 = .ok (.ifCond .eq 11, 3) := by decide +kernel
theorem dX5_ask_8 : decode cX5_ask 8 = .ok (.iload_n 2, 1) := by decide +kernel
theorem dX5_ask_9 : decode cX5_ask 9 = .ok (.iconst 2, 1) := by decide +kernel
theorem dX5_ask_10 : decode cX5_ask 10 = .ok (.invokestatic 59, 3) := by decide +kernel
theorem dX5_ask_13 : decode cX5_ask 13 = .ok (.ifCond .ne 6, 3) := by decide +kernel
theorem dX5_ask_16 : decode cX5_ask 16 = .ok (.ldc 63, 2) := by decide +kernel
theorem dX5_ask_18 : decode cX5_ask 18 = .ok (.ireturn, 1) := by decide +kernel
theorem dX5_ask_19 : decode cX5_ask 19 = .ok (.aload_n 0, 1) := by decide +kernel
theorem dX5_ask_20 : decode cX5_ask 20 = .ok (.iconst 0, 1) := by decide +kernel
theorem dX5_ask_21 : decode cX5_ask 21 = .ok (.putfield 232, 3) := by decide +kernel
theorem dX5_ask_24 : decode cX5_ask 24 = .ok (.aload_n 0, 1) := by decide +kernel
theorem dX5_ask_25 : decode cX5_ask 25 = .ok (.iload_n 2, 1) := by decide +kernel
theorem dX5_ask_26 : decode cX5_ask 26 = .ok (.iload_n 1, 1) := by decide +kernel
theorem dX5_ask_27 : decode cX5_ask 27 = .ok (.iconst 0, 1) := by decide +kernel
theorem dX5_ask_28 : decode cX5_ask 28 = .ok (.invokevirtual 235, 3) := by decide +kernel
theorem dX5_ask_31 : decode cX5_ask 31 = .ok (.ireturn, 1) := by decide +kernel
theorem dX5_trace_0 : decode cX5_trace 0 = .ok (.iload_n 1, 1) := by decide +kernel
theorem dX5_trace_1 : decode cX5_trace 1 = .ok (.aload_n 0, 1) := by decide +kernel
theorem dX5_trace_2 : decode cX5_trace 2 = .ok (.getfield 232, 3) := by decide +kernel
theorem dX5_trace_5 : decode cX5_trace 5 = .ok (.invokestatic 59, 3) := by decide +kernel
theorem dX5_trace_8 : decode cX5_trace 8 = .ok (.ifCond .eq 12, 3) := by decide +kernel
theorem dX5_trace_11 : decode cX5_trace 11 = .ok (.aload_n 0, 1) := by decide +kernel
theorem dX5_trace_12 : decode cX5_trace 12 = .ok (.getfield 50, 3) := by decide +kernel
theorem dX5_trace_15 : decode cX5_trace 15 = .ok (.iload_n 1, 1) := by decide +kernel
theorem dX5_trace_16 : decode cX5_trace 16 = .ok (.iaload, 1) := by decide +kernel
theorem dX5_trace_17 : decode cX5_trace 17 = .ok (.goto 5, 3) := by decide +kernel
theorem dX5_trace_20 : decode cX5_trace 20 = .ok (.ldc 187, 2) := by decide +kernel
theorem dX5_trace_22 : decode cX5_trace 22 = .ok (.ireturn, 1) := by decide +kernel
theorem dX5_count_0 : decode cX5_count 0 = .ok (.iload_n 1, 1) := by decide +kernel
theorem dX5_count_1 : decode cX5_count 1 = .ok (.tableswitch 111 0 7 #[47, 52, 60, 68, 76, 84, 95, 103], 47) := by decide +kernel
theorem dX5_count_48 : decode cX5_count 48 = .ok (.aload_n 0, 1) := by decide +kernel
theorem dX5_count_49 : decode cX5_count 49 = .ok (.invokevirtual 239, 3) := by decide +kernel
theorem dX5_count_52 : decode cX5_count 52 = .ok (.ireturn, 1) := by decide +kernel
theorem dX5_count_53 : decode cX5_count 53 = .ok (.aload_n 0, 1) := by decide +kernel
theorem dX5_count_54 : decode cX5_count 54 = .ok (.getfield 25, 3) := by decide +kernel
theorem dX5_count_57 : decode cX5_count 57 = .ok (.getfield 119, 3) := by decide +kernel
theorem dX5_count_60 : decode cX5_count 60 = .ok (.ireturn, 1) := by decide +kernel
theorem dX5_count_61 : decode cX5_count 61 = .ok (.aload_n 0, 1) := by decide +kernel
theorem dX5_count_62 : decode cX5_count 62 = .ok (.getfield 25, 3) := by decide +kernel
theorem dX5_count_65 : decode cX5_count 65 = .ok (.getfield 128, 3) := by decide +kernel
theorem dX5_count_68 : decode cX5_count 68 = .ok (.ireturn, 1) := by decide +kernel
theorem dX5_count_69 : decode cX5_count 69 = .ok (.aload_n 0, 1) := by decide +kernel
theorem dX5_count_70 : decode cX5_count 70 = .ok (.getfield 25, 3) := by decide +kernel
theorem dX5_count_73 : decode cX5_count 73 = .ok (.getfield 242, 3) := by decide +kernel
theorem dX5_count_76 : decode cX5_count 76 = .ok (.ireturn, 1) := by decide +kernel
theorem dX5_count_77 : decode cX5_count 77 = .ok (.aload_n 0, 1) := by decide +kernel
theorem dX5_count_78 : decode cX5_count 78 = .ok (.getfield 25, 3) := by decide +kernel
theorem dX5_count_81 : decode cX5_count 81 = .ok (.getfield 245, 3) := by decide +kernel
theorem dX5_count_84 : decode cX5_count 84 = .ok (.ireturn, 1) := by decide +kernel
theorem dX5_count_85 : decode cX5_count 85 = .ok (.aload_n 0, 1) := by decide +kernel
theorem dX5_count_86 : decode cX5_count 86 = .ok (.getfield 25, 3) := by decide +kernel
theorem dX5_count_89 : decode cX5_count 89 = .ok (.getfield 160, 3) := by decide +kernel
theorem dX5_count_92 : decode cX5_count 92 = .ok (.invokestatic 248, 3) := by decide +kernel
theorem dX5_count_95 : decode cX5_count 95 = .ok (.ireturn, 1) := by decide +kernel
theorem dX5_count_96 : decode cX5_count 96 = .ok (.aload_n 0, 1) := by decide +kernel
theorem dX5_count_97 : decode cX5_count 97 = .ok (.getfield 39, 3) := by decide +kernel
theorem dX5_count_100 : decode cX5_count 100 = .ok (.getfield 163, 3) := by decide +kernel
theorem dX5_count_103 : decode cX5_count 103 = .ok (.ireturn, 1) := by decide +kernel
theorem dX5_count_104 : decode cX5_count 104 = .ok (.aload_n 0, 1) := by decide +kernel
theorem dX5_count_105 : decode cX5_count 105 = .ok (.getfield 18, 3) := by decide +kernel
theorem dX5_count_108 : decode cX5_count 108 = .ok (.getfield 97, 3) := by decide +kernel
theorem dX5_count_111 : decode cX5_count 111 = .ok (.ireturn, 1) := by decide +kernel
theorem dX5_count_112 : decode cX5_count 112 = .ok (.ldc 63, 2) := by decide +kernel
theorem dX5_count_114 : decode cX5_count 114 = .ok (.ireturn, 1) := by decide +kernel
theorem dX5_status_0 : decode cX5_status 0 = .ok (.aload_n 0, 1) := by decide +kernel
theorem dX5_status_1 : decode cX5_status 1 = .ok (.getfield 68, 3) := by decide +kernel
theorem dX5_status_4 : decode cX5_status 4 = .ok (.ireturn, 1) := by decide +kernel
theorem dX5_isBelow_0 : decode cX5_isBelow 0 = .ok (.iload_n 0, 1) := by decide +kernel
theorem dX5_isBelow_1 : decode cX5_isBelow 1 = .ok (.ifCond .lt 12, 3) := by decide +kernel
theorem dX5_isBelow_4 : decode cX5_isBelow 4 = .ok (.iload_n 0, 1) := by decide +kernel
theorem dX5_isBelow_5 : decode cX5_isBelow 5 = .ok (.iload_n 1, 1) := by decide +kernel
theorem dX5_isBelow_6 : decode cX5_isBelow 6 = .ok (.if_icmp .ge 7, 3) := by decide +kernel
theorem dX5_isBelow_9 : decode cX5_isBelow 9 = .ok (.iconst 1, 1) := by decide +kernel
theorem dX5_isBelow_10 : decode cX5_isBelow 10 = .ok (.goto 4, 3) := by decide +kernel
theorem dX5_isBelow_13 : decode cX5_isBelow 13 = .ok (.iconst 0, 1) := by decide +kernel
theorem dX5_isBelow_14 : decode cX5_isBelow 14 = .ok (.ireturn, 1) := by decide +kernel
theorem dX5_isRow_0 : decode cX5_isRow 0 = .ok (.iload_n 0, 1) := by decide +kernel
theorem dX5_isRow_1 : decode cX5_isRow 1 = .ok (.bipush 8, 2) := by decide +kernel
theorem dX5_isRow_3 : decode cX5_isRow 3 = .ok (.invokestatic 59, 3) := by decide +kernel
theorem dX5_isRow_6 : decode cX5_isRow 6 = .ok (.ireturn, 1) := by decide +kernel
theorem dX5_isAhead_0 : decode cX5_isAhead 0 = .ok (.iload_n 0, 1) := by decide +kernel
theorem dX5_isAhead_1 : decode cX5_isAhead 1 = .ok (.ifCond .lt 13, 3) := by decide +kernel
theorem dX5_isAhead_4 : decode cX5_isAhead 4 = .ok (.iload_n 0, 1) := by decide +kernel
theorem dX5_isAhead_5 : decode cX5_isAhead 5 = .ok (.bipush 60, 2) := by decide +kernel
theorem dX5_isAhead_7 : decode cX5_isAhead 7 = .ok (.if_icmp .gt 7, 3) := by decide +kernel
theorem dX5_isAhead_10 : decode cX5_isAhead 10 = .ok (.iconst 1, 1) := by decide +kernel
theorem dX5_isAhead_11 : decode cX5_isAhead 11 = .ok (.goto 4, 3) := by decide +kernel
theorem dX5_isAhead_14 : decode cX5_isAhead 14 = .ok (.iconst 0, 1) := by decide +kernel
theorem dX5_isAhead_15 : decode cX5_isAhead 15 = .ok (.ireturn, 1) := by decide +kernel
theorem dX5_isHammock_0 : decode cX5_isHammock 0 = .ok (.iload_n 1, 1) := by decide +kernel
theorem dX5_isHammock_1 : decode cX5_isHammock 1 = .ok (.aload_n 0, 1) := by decide +kernel
theorem dX5_isHammock_2 : decode cX5_isHammock 2 = .ok (.getfield 25, 3) := by decide +kernel
theorem dX5_isHammock_5 : decode cX5_isHammock 5 = .ok (.getfield 119, 3) := by decide +kernel
theorem dX5_isHammock_8 : decode cX5_isHammock 8 = .ok (.invokestatic 59, 3) := by decide +kernel
theorem dX5_isHammock_11 : decode cX5_isHammock 11 = .ok (.ireturn, 1) := by decide +kernel
theorem dX5_areTwo_0 : decode cX5_areTwo 0 = .ok (.aload_n 0, 1) := by decide +kernel
theorem dX5_areTwo_1 : decode cX5_areTwo 1 = .ok (.iload_n 1, 1) := by decide +kernel
theorem dX5_areTwo_2 : decode cX5_areTwo 2 = .ok (.invokevirtual 138, 3) := by decide +kernel
theorem dX5_areTwo_5 : decode cX5_areTwo 5 = .ok (.ifCond .eq 20, 3) := by decide +kernel
theorem dX5_areTwo_8 : decode cX5_areTwo 8 = .ok (.aload_n 0, 1) := by decide +kernel
theorem dX5_areTwo_9 : decode cX5_areTwo 9 = .ok (.iload_n 2, 1) := by decide +kernel
theorem dX5_areTwo_10 : decode cX5_areTwo 10 = .ok (.invokevirtual 138, 3) := by decide +kernel
theorem dX5_areTwo_13 : decode cX5_areTwo 13 = .ok (.ifCond .eq 12, 3) := by decide +kernel
theorem dX5_areTwo_16 : decode cX5_areTwo 16 = .ok (.iload_n 1, 1) := by decide +kernel
theorem dX5_areTwo_17 : decode cX5_areTwo 17 = .ok (.iload_n 2, 1) := by decide +kernel
theorem dX5_areTwo_18 : decode cX5_areTwo 18 = .ok (.if_icmp .eq 7, 3) := by decide +kernel
theorem dX5_areTwo_21 : decode cX5_areTwo 21 = .ok (.iconst 1, 1) := by decide +kernel
theorem dX5_areTwo_22 : decode cX5_areTwo 22 = .ok (.goto 4, 3) := by decide +kernel
theorem dX5_areTwo_25 : decode cX5_areTwo 25 = .ok (.iconst 0, 1) := by decide +kernel
theorem dX5_areTwo_26 : decode cX5_areTwo 26 = .ok (.ireturn, 1) := by decide +kernel
theorem dX5_finds_0 : decode cX5_finds 0 = .ok (.aload_n 0, 1) := by decide +kernel
theorem dX5_finds_1 : decode cX5_finds 1 = .ok (.iload_n 1, 1) := by decide +kernel
theorem dX5_finds_2 : decode cX5_finds 2 = .ok (.putfield 68, 3) := by decide +kernel
theorem dX5_finds_5 : decode cX5_finds 5 = .ok (.ldc 253, 2) := by decide +kernel
theorem dX5_finds_7 : decode cX5_finds 7 = .ok (.iload_n 1, 1) := by decide +kernel
theorem dX5_finds_8 : decode cX5_finds 8 = .ok (.isub, 1) := by decide +kernel
theorem dX5_finds_9 : decode cX5_finds 9 = .ok (.ireturn, 1) := by decide +kernel
theorem dX5_countRows_0 : decode cX5_countRows 0 = .ok (.iconst 0, 1) := by decide +kernel
theorem dX5_countRows_1 : decode cX5_countRows 1 = .ok (.istore_n 1, 1) := by decide +kernel
theorem dX5_countRows_2 : decode cX5_countRows 2 = .ok (.iconst 0, 1) := by decide +kernel
theorem dX5_countRows_3 : decode cX5_countRows 3 = .ok (.istore_n 2, 1) := by decide +kernel
theorem dX5_countRows_4 : decode cX5_countRows 4 = .ok (.iload_n 2, 1) := by decide +kernel
theorem dX5_countRows_5 : decode cX5_countRows 5 = .ok (.bipush 8, 2) := by decide +kernel
theorem dX5_countRows_7 : decode cX5_countRows 7 = .ok (.if_icmp .ge 25, 3) := by decide +kernel
theorem dX5_countRows_10 : decode cX5_countRows 10 = .ok (.aload_n 0, 1) := by decide +kernel
theorem dX5_countRows_11 : decode cX5_countRows 11 = .ok (.getfield 11, 3) := by decide +kernel
theorem dX5_countRows_14 : decode cX5_countRows 14 = .ok (.iload_n 2, 1) := by decide +kernel
theorem dX5_countRows_15 : decode cX5_countRows 15 = .ok (.aaload, 1) := by decide +kernel
theorem dX5_countRows_16 : decode cX5_countRows 16 = .ok (.getfield 76, 3) := by decide +kernel
theorem dX5_countRows_19 : decode cX5_countRows 19 = .ok (.iconst (-1), 1) := by decide +kernel
theorem dX5_countRows_20 : decode cX5_countRows 20 = .ok (.if_icmp .eq 6, 3) := by decide +kernel
theorem dX5_countRows_23 : decode cX5_countRows 23 = .ok (.iinc 1 1, 3) := by decide +kernel
theorem dX5_countRows_26 : decode cX5_countRows 26 = .ok (.iinc 2 1, 3) := by decide +kernel
theorem dX5_countRows_29 : decode cX5_countRows 29 = .ok (.goto (-25), 3) := by decide +kernel
theorem dX5_countRows_32 : decode cX5_countRows 32 = .ok (.iload_n 1, 1) := by decide +kernel
theorem dX5_countRows_33 : decode cX5_countRows 33 = .ok (.ireturn, 1) := by decide +kernel
theorem dX5_fittingKinds_0 : decode cX5_fittingKinds 0 = .ok (.iconst 0, 1) := by decide +kernel
theorem dX5_fittingKinds_1 : decode cX5_fittingKinds 1 = .ok (.istore 5, 2) := by decide +kernel
theorem dX5_fittingKinds_3 : decode cX5_fittingKinds 3 = .ok (.iconst 1, 1) := by decide +kernel
theorem dX5_fittingKinds_4 : decode cX5_fittingKinds 4 = .ok (.istore 6, 2) := by decide +kernel
theorem dX5_fittingKinds_6 : decode cX5_fittingKinds 6 = .ok (.iload 6, 2) := by decide +kernel
theorem dX5_fittingKinds_8 : decode cX5_fittingKinds 8 = .ok (.bipush 6, 2) := by decide +kernel
theorem dX5_fittingKinds_10 : decode cX5_fittingKinds 10 = .ok (.if_icmp .ge 41, 3) := by decide +kernel
theorem dX5_fittingKinds_13 : decode cX5_fittingKinds 13 = .ok (.aload_n 0, 1) := by decide +kernel
theorem dX5_fittingKinds_14 : decode cX5_fittingKinds 14 = .ok (.getfield 29, 3) := by decide +kernel
theorem dX5_fittingKinds_17 : decode cX5_fittingKinds 17 = .ok (.getfield 226, 3) := by decide +kernel
theorem dX5_fittingKinds_20 : decode cX5_fittingKinds 20 = .ok (.iload_n 1, 1) := by decide +kernel
theorem dX5_fittingKinds_21 : decode cX5_fittingKinds 21 = .ok (.iload 6, 2) := by decide +kernel
theorem dX5_fittingKinds_23 : decode cX5_fittingKinds 23 = .ok (.iastore, 1) := by decide +kernel
theorem dX5_fittingKinds_24 : decode cX5_fittingKinds 24 = .ok (.aload_n 0, 1) := by decide +kernel
theorem dX5_fittingKinds_25 : decode cX5_fittingKinds 25 = .ok (.iload_n 1, 1) := by decide +kernel
theorem dX5_fittingKinds_26 : decode cX5_fittingKinds 26 = .ok (.aload_n 2, 1) := by decide +kernel
theorem dX5_fittingKinds_27 : decode cX5_fittingKinds 27 = .ok (.iload_n 3, 1) := by decide +kernel
theorem dX5_fittingKinds_28 : decode cX5_fittingKinds 28 = .ok (.iload 4, 2) := by decide +kernel
theorem dX5_fittingKinds_30 : decode cX5_fittingKinds 30 = .ok (.invokevirtual 254, 3) := by decide +kernel
theorem dX5_fittingKinds_33 : decode cX5_fittingKinds 33 = .ok (.ifCond .eq 12, 3) := by decide +kernel
theorem dX5_fittingKinds_36 : decode cX5_fittingKinds 36 = .ok (.iload 5, 2) := by decide +kernel
theorem dX5_fittingKinds_38 : decode cX5_fittingKinds 38 = .ok (.iconst 1, 1) := by decide +kernel
theorem dX5_fittingKinds_39 : decode cX5_fittingKinds 39 = .ok (.iload 6, 2) := by decide +kernel
theorem dX5_fittingKinds_41 : decode cX5_fittingKinds 41 = .ok (.ishl, 1) := by decide +kernel
theorem dX5_fittingKinds_42 : decode cX5_fittingKinds 42 = .ok (.ior, 1) := by decide +kernel
theorem dX5_fittingKinds_43 : decode cX5_fittingKinds 43 = .ok (.istore 5, 2) := by decide +kernel
theorem dX5_fittingKinds_45 : decode cX5_fittingKinds 45 = .ok (.iinc 6 1, 3) := by decide +kernel
theorem dX5_fittingKinds_48 : decode cX5_fittingKinds 48 = .ok (.goto (-42), 3) := by decide +kernel
theorem dX5_fittingKinds_51 : decode cX5_fittingKinds 51 = .ok (.iload 5, 2) := by decide +kernel
theorem dX5_fittingKinds_53 : decode cX5_fittingKinds 53 = .ok (.ireturn, 1) := by decide +kernel
theorem dX5_fittingSwings_0 : decode cX5_fittingSwings 0 = .ok (.iconst 0, 1) := by decide +kernel
theorem dX5_fittingSwings_1 : decode cX5_fittingSwings 1 = .ok (.istore 5, 2) := by decide +kernel
theorem dX5_fittingSwings_3 : decode cX5_fittingSwings 3 = .ok (.iconst 0, 1) := by decide +kernel
theorem dX5_fittingSwings_4 : decode cX5_fittingSwings 4 = .ok (.istore 6, 2) := by decide +kernel
theorem dX5_fittingSwings_6 : decode cX5_fittingSwings 6 = .ok (.iload 6, 2) := by decide +kernel
theorem dX5_fittingSwings_8 : decode cX5_fittingSwings 8 = .ok (.iconst 5, 1) := by decide +kernel
theorem dX5_fittingSwings_9 : decode cX5_fittingSwings 9 = .ok (.if_icmp .gt 41, 3) := by decide +kernel
theorem dX5_fittingSwings_12 : decode cX5_fittingSwings 12 = .ok (.aload_n 0, 1) := by decide +kernel
theorem dX5_fittingSwings_13 : decode cX5_fittingSwings 13 = .ok (.getfield 29, 3) := by decide +kernel
theorem dX5_fittingSwings_16 : decode cX5_fittingSwings 16 = .ok (.getfield 169, 3) := by decide +kernel
theorem dX5_fittingSwings_19 : decode cX5_fittingSwings 19 = .ok (.iload_n 1, 1) := by decide +kernel
theorem dX5_fittingSwings_20 : decode cX5_fittingSwings 20 = .ok (.iload 6, 2) := by decide +kernel
theorem dX5_fittingSwings_22 : decode cX5_fittingSwings 22 = .ok (.iastore, 1) := by decide +kernel
theorem dX5_fittingSwings_23 : decode cX5_fittingSwings 23 = .ok (.aload_n 0, 1) := by decide +kernel
theorem dX5_fittingSwings_24 : decode cX5_fittingSwings 24 = .ok (.iload_n 1, 1) := by decide +kernel
theorem dX5_fittingSwings_25 : decode cX5_fittingSwings 25 = .ok (.aload_n 2, 1) := by decide +kernel
theorem dX5_fittingSwings_26 : decode cX5_fittingSwings 26 = .ok (.iload_n 3, 1) := by decide +kernel
theorem dX5_fittingSwings_27 : decode cX5_fittingSwings 27 = .ok (.iload 4, 2) := by decide +kernel
theorem dX5_fittingSwings_29 : decode cX5_fittingSwings 29 = .ok (.invokevirtual 254, 3) := by decide +kernel
theorem dX5_fittingSwings_32 : decode cX5_fittingSwings 32 = .ok (.ifCond .eq 12, 3) := by decide +kernel
theorem dX5_fittingSwings_35 : decode cX5_fittingSwings 35 = .ok (.iload 5, 2) := by decide +kernel
theorem dX5_fittingSwings_37 : decode cX5_fittingSwings 37 = .ok (.iconst 1, 1) := by decide +kernel
theorem dX5_fittingSwings_38 : decode cX5_fittingSwings 38 = .ok (.iload 6, 2) := by decide +kernel
theorem dX5_fittingSwings_40 : decode cX5_fittingSwings 40 = .ok (.ishl, 1) := by decide +kernel
theorem dX5_fittingSwings_41 : decode cX5_fittingSwings 41 = .ok (.ior, 1) := by decide +kernel
theorem dX5_fittingSwings_42 : decode cX5_fittingSwings 42 = .ok (.istore 5, 2) := by decide +kernel
theorem dX5_fittingSwings_44 : decode cX5_fittingSwings 44 = .ok (.iinc 6 1, 3) := by decide +kernel
theorem dX5_fittingSwings_47 : decode cX5_fittingSwings 47 = .ok (.goto (-41), 3) := by decide +kernel
theorem dX5_fittingSwings_50 : decode cX5_fittingSwings 50 = .ok (.iload 5, 2) := by decide +kernel
theorem dX5_fittingSwings_52 : decode cX5_fittingSwings 52 = .ok (.ireturn, 1) := by decide +kernel
theorem dX5_fittingWeights_0 : decode cX5_fittingWeights 0 = .ok (.iconst 0, 1) := by decide +kernel
theorem dX5_fittingWeights_1 : decode cX5_fittingWeights 1 = .ok (.istore 5, 2) := by decide +kernel
theorem dX5_fittingWeights_3 : decode cX5_fittingWeights 3 = .ok (.iconst 1, 1) := by decide +kernel
theorem dX5_fittingWeights_4 : decode cX5_fittingWeights 4 = .ok (.istore 6, 2) := by decide +kernel
theorem dX5_fittingWeights_6 : decode cX5_fittingWeights 6 = .ok (.iload 6, 2) := by decide +kernel
theorem dX5_fittingWeights_8 : decode cX5_fittingWeights 8 = .ok (.bipush 20, 2) := by decide +kernel
theorem dX5_fittingWeights_10 : decode cX5_fittingWeights 10 = .ok (.if_icmp .gt 41, 3) := by decide +kernel
theorem dX5_fittingWeights_13 : decode cX5_fittingWeights 13 = .ok (.aload_n 0, 1) := by decide +kernel
theorem dX5_fittingWeights_14 : decode cX5_fittingWeights 14 = .ok (.getfield 29, 3) := by decide +kernel
theorem dX5_fittingWeights_17 : decode cX5_fittingWeights 17 = .ok (.getfield 151, 3) := by decide +kernel
theorem dX5_fittingWeights_20 : decode cX5_fittingWeights 20 = .ok (.iload_n 1, 1) := by decide +kernel
theorem dX5_fittingWeights_21 : decode cX5_fittingWeights 21 = .ok (.iload 6, 2) := by decide +kernel
theorem dX5_fittingWeights_23 : decode cX5_fittingWeights 23 = .ok (.iastore, 1) := by decide +kernel
theorem dX5_fittingWeights_24 : decode cX5_fittingWeights 24 = .ok (.aload_n 0, 1) := by decide +kernel
theorem dX5_fittingWeights_25 : decode cX5_fittingWeights 25 = .ok (.iload_n 1, 1) := by decide +kernel
theorem dX5_fittingWeights_26 : decode cX5_fittingWeights 26 = .ok (.aload_n 2, 1) := by decide +kernel
theorem dX5_fittingWeights_27 : decode cX5_fittingWeights 27 = .ok (.iload_n 3, 1) := by decide +kernel
theorem dX5_fittingWeights_28 : decode cX5_fittingWeights 28 = .ok (.iload 4, 2) := by decide +kernel
theorem dX5_fittingWeights_30 : decode cX5_fittingWeights 30 = .ok (.invokevirtual 258, 3) := by decide +kernel
theorem dX5_fittingWeights_33 : decode cX5_fittingWeights 33 = .ok (.ifCond .eq 12, 3) := by decide +kernel
theorem dX5_fittingWeights_36 : decode cX5_fittingWeights 36 = .ok (.iload 5, 2) := by decide +kernel
theorem dX5_fittingWeights_38 : decode cX5_fittingWeights 38 = .ok (.iconst 1, 1) := by decide +kernel
theorem dX5_fittingWeights_39 : decode cX5_fittingWeights 39 = .ok (.iload 6, 2) := by decide +kernel
theorem dX5_fittingWeights_41 : decode cX5_fittingWeights 41 = .ok (.ishl, 1) := by decide +kernel
theorem dX5_fittingWeights_42 : decode cX5_fittingWeights 42 = .ok (.ior, 1) := by decide +kernel
theorem dX5_fittingWeights_43 : decode cX5_fittingWeights 43 = .ok (.istore 5, 2) := by decide +kernel
theorem dX5_fittingWeights_45 : decode cX5_fittingWeights 45 = .ok (.iinc 6 1, 3) := by decide +kernel
theorem dX5_fittingWeights_48 : decode cX5_fittingWeights 48 = .ok (.goto (-42), 3) := by decide +kernel
theorem dX5_fittingWeights_51 : decode cX5_fittingWeights 51 = .ok (.iload 5, 2) := by decide +kernel
theorem dX5_fittingWeights_53 : decode cX5_fittingWeights 53 = .ok (.ireturn, 1) := by decide +kernel
theorem dX5_wasThere_0 : decode cX5_wasThere 0 = .ok (.iconst 0, 1) := by decide +kernel
theorem dX5_wasThere_1 : decode cX5_wasThere 1 = .ok (.istore 5, 2) := by decide +kernel
theorem dX5_wasThere_3 : decode cX5_wasThere 3 = .ok (.iload 5, 2) := by decide +kernel
theorem dX5_wasThere_5 : decode cX5_wasThere 5 = .ok (.iload 4, 2) := by decide +kernel
theorem dX5_wasThere_7 : decode cX5_wasThere 7 = .ok (.if_icmp .ge 41, 3) := by decide +kernel
theorem dX5_wasThere_10 : decode cX5_wasThere 10 = .ok (.aload_n 2, 1) := by decide +kernel
theorem dX5_wasThere_11 : decode cX5_wasThere 11 = .ok (.getfield 82, 3) := by decide +kernel
theorem dX5_wasThere_14 : decode cX5_wasThere 14 = .ok (.iload_n 3, 1) := by decide +kernel
theorem dX5_wasThere_15 : decode cX5_wasThere 15 = .ok (.iload 5, 2) := by decide +kernel
theorem dX5_wasThere_17 : decode cX5_wasThere 17 = .ok (.iadd, 1) := by decide +kernel
theorem dX5_wasThere_18 : decode cX5_wasThere 18 = .ok (.iaload, 1) := by decide +kernel
theorem dX5_wasThere_19 : decode cX5_wasThere 19 = .ok (.aload_n 0, 1) := by decide +kernel
theorem dX5_wasThere_20 : decode cX5_wasThere 20 = .ok (.getfield 29, 3) := by decide +kernel
theorem dX5_wasThere_23 : decode cX5_wasThere 23 = .ok (.iload_n 1, 1) := by decide +kernel
theorem dX5_wasThere_24 : decode cX5_wasThere 24 = .ok (.aload_n 0, 1) := by decide +kernel
theorem dX5_wasThere_25 : decode cX5_wasThere 25 = .ok (.getfield 29, 3) := by decide +kernel
theorem dX5_wasThere_28 : decode cX5_wasThere 28 = .ok (.getfield 128, 3) := by decide +kernel
theorem dX5_wasThere_31 : decode cX5_wasThere 31 = .ok (.iload 5, 2) := by decide +kernel
theorem dX5_wasThere_33 : decode cX5_wasThere 33 = .ok (.iadd, 1) := by decide +kernel
theorem dX5_wasThere_34 : decode cX5_wasThere 34 = .ok (.invokevirtual 147, 3) := by decide +kernel
theorem dX5_wasThere_37 : decode cX5_wasThere 37 = .ok (.if_icmp .eq 5, 3) := by decide +kernel
theorem dX5_wasThere_40 : decode cX5_wasThere 40 = .ok (.iconst 0, 1) := by decide +kernel
theorem dX5_wasThere_41 : decode cX5_wasThere 41 = .ok (.ireturn, 1) := by decide +kernel
theorem dX5_wasThere_42 : decode cX5_wasThere 42 = .ok (.iinc 5 1, 3) := by decide +kernel
theorem dX5_wasThere_45 : decode cX5_wasThere 45 = .ok (.goto (-42), 3) := by decide +kernel
theorem dX5_wasThere_48 : decode cX5_wasThere 48 = .ok (.iconst 1, 1) := by decide +kernel
theorem dX5_wasThere_49 : decode cX5_wasThere 49 = .ok (.ireturn, 1) := by decide +kernel
theorem dX5_wasReached_0 : decode cX5_wasReached 0 = .ok (.iconst 0, 1) := by decide +kernel
theorem dX5_wasReached_1 : decode cX5_wasReached 1 = .ok (.istore 5, 2) := by decide +kernel
theorem dX5_wasReached_3 : decode cX5_wasReached 3 = .ok (.iload 5, 2) := by decide +kernel
theorem dX5_wasReached_5 : decode cX5_wasReached 5 = .ok (.iload 4, 2) := by decide +kernel
theorem dX5_wasReached_7 : decode cX5_wasReached 7 = .ok (.if_icmp .ge 41, 3) := by decide +kernel
theorem dX5_wasReached_10 : decode cX5_wasReached 10 = .ok (.aload_n 2, 1) := by decide +kernel
theorem dX5_wasReached_11 : decode cX5_wasReached 11 = .ok (.getfield 82, 3) := by decide +kernel
theorem dX5_wasReached_14 : decode cX5_wasReached 14 = .ok (.iload_n 3, 1) := by decide +kernel
theorem dX5_wasReached_15 : decode cX5_wasReached 15 = .ok (.iload 5, 2) := by decide +kernel
theorem dX5_wasReached_17 : decode cX5_wasReached 17 = .ok (.iadd, 1) := by decide +kernel
theorem dX5_wasReached_18 : decode cX5_wasReached 18 = .ok (.iaload, 1) := by decide +kernel
theorem dX5_wasReached_19 : decode cX5_wasReached 19 = .ok (.aload_n 0, 1) := by decide +kernel
theorem dX5_wasReached_20 : decode cX5_wasReached 20 = .ok (.getfield 29, 3) := by decide +kernel
theorem dX5_wasReached_23 : decode cX5_wasReached 23 = .ok (.iload_n 1, 1) := by decide +kernel
theorem dX5_wasReached_24 : decode cX5_wasReached 24 = .ok (.aload_n 0, 1) := by decide +kernel
theorem dX5_wasReached_25 : decode cX5_wasReached 25 = .ok (.getfield 29, 3) := by decide +kernel
theorem dX5_wasReached_28 : decode cX5_wasReached 28 = .ok (.getfield 128, 3) := by decide +kernel
theorem dX5_wasReached_31 : decode cX5_wasReached 31 = .ok (.iload 5, 2) := by decide +kernel
theorem dX5_wasReached_33 : decode cX5_wasReached 33 = .ok (.iadd, 1) := by decide +kernel
theorem dX5_wasReached_34 : decode cX5_wasReached 34 = .ok (.invokevirtual 175, 3) := by decide +kernel
theorem dX5_wasReached_37 : decode cX5_wasReached 37 = .ok (.if_icmp .eq 5, 3) := by decide +kernel
theorem dX5_wasReached_40 : decode cX5_wasReached 40 = .ok (.iconst 0, 1) := by decide +kernel
theorem dX5_wasReached_41 : decode cX5_wasReached 41 = .ok (.ireturn, 1) := by decide +kernel
theorem dX5_wasReached_42 : decode cX5_wasReached 42 = .ok (.iinc 5 1, 3) := by decide +kernel
theorem dX5_wasReached_45 : decode cX5_wasReached 45 = .ok (.goto (-42), 3) := by decide +kernel
theorem dX5_wasReached_48 : decode cX5_wasReached 48 = .ok (.iconst 1, 1) := by decide +kernel
theorem dX5_wasReached_49 : decode cX5_wasReached 49 = .ok (.ireturn, 1) := by decide +kernel
theorem dX5_partsOf_0 : decode cX5_partsOf 0 = .ok (.iconst 1, 1) := by decide +kernel
theorem dX5_partsOf_1 : decode cX5_partsOf 1 = .ok (.istore_n 3, 1) := by decide +kernel
theorem dX5_partsOf_2 : decode cX5_partsOf 2 = .ok (.iconst 0, 1) := by decide +kernel
theorem dX5_partsOf_3 : decode cX5_partsOf 3 = .ok (.istore 4, 2) := by decide +kernel
theorem dX5_partsOf_5 : decode cX5_partsOf 5 = .ok (.iload 4, 2) := by decide +kernel
theorem dX5_partsOf_7 : decode cX5_partsOf 7 = .ok (.aload_n 0, 1) := by decide +kernel
theorem dX5_partsOf_8 : decode cX5_partsOf 8 = .ok (.getfield 25, 3) := by decide +kernel
theorem dX5_partsOf_11 : decode cX5_partsOf 11 = .ok (.getfield 119, 3) := by decide +kernel
theorem dX5_partsOf_14 : decode cX5_partsOf 14 = .ok (.if_icmp .ge 42, 3) := by decide +kernel
theorem dX5_partsOf_17 : decode cX5_partsOf 17 = .ok (.aload_n 0, 1) := by decide +kernel
theorem dX5_partsOf_18 : decode cX5_partsOf 18 = .ok (.getfield 25, 3) := by decide +kernel
theorem dX5_partsOf_21 : decode cX5_partsOf 21 = .ok (.iload 4, 2) := by decide +kernel
theorem dX5_partsOf_23 : decode cX5_partsOf 23 = .ok (.invokevirtual 157, 3) := by decide +kernel
theorem dX5_partsOf_26 : decode cX5_partsOf 26 = .ok (.ifCond .ne 24, 3) := by decide +kernel
theorem dX5_partsOf_29 : decode cX5_partsOf 29 = .ok (.iload_n 3, 1) := by decide +kernel
theorem dX5_partsOf_30 : decode cX5_partsOf 30 = .ok (.iload_n 1, 1) := by decide +kernel
theorem dX5_partsOf_31 : decode cX5_partsOf 31 = .ok (.iload 4, 2) := by decide +kernel
theorem dX5_partsOf_33 : decode cX5_partsOf 33 = .ok (.ishr, 1) := by decide +kernel
theorem dX5_partsOf_34 : decode cX5_partsOf 34 = .ok (.iconst 1, 1) := by decide +kernel
theorem dX5_partsOf_35 : decode cX5_partsOf 35 = .ok (.iand, 1) := by decide +kernel
theorem dX5_partsOf_36 : decode cX5_partsOf 36 = .ok (.iconst 1, 1) := by decide +kernel
theorem dX5_partsOf_37 : decode cX5_partsOf 37 = .ok (.if_icmp .ne 7, 3) := by decide +kernel
theorem dX5_partsOf_40 : decode cX5_partsOf 40 = .ok (.iload_n 2, 1) := by decide +kernel
theorem dX5_partsOf_41 : decode cX5_partsOf 41 = .ok (.goto 7, 3) := by decide +kernel
theorem dX5_partsOf_44 : decode cX5_partsOf 44 = .ok (.bipush 10, 2) := by decide +kernel
theorem dX5_partsOf_46 : decode cX5_partsOf 46 = .ok (.iload_n 2, 1) := by decide +kernel
theorem dX5_partsOf_47 : decode cX5_partsOf 47 = .ok (.isub, 1) := by decide +kernel
theorem dX5_partsOf_48 : decode cX5_partsOf 48 = .ok (.imul, 1) := by decide +kernel
theorem dX5_partsOf_49 : decode cX5_partsOf 49 = .ok (.istore_n 3, 1) := by decide +kernel
theorem dX5_partsOf_50 : decode cX5_partsOf 50 = .ok (.iinc 4 1, 3) := by decide +kernel
theorem dX5_partsOf_53 : decode cX5_partsOf 53 = .ok (.goto (-48), 3) := by decide +kernel
theorem dX5_partsOf_56 : decode cX5_partsOf 56 = .ok (.iload_n 3, 1) := by decide +kernel
theorem dX5_partsOf_57 : decode cX5_partsOf 57 = .ok (.ireturn, 1) := by decide +kernel
theorem dX5_partsOfAll_0 : decode cX5_partsOfAll 0 = .ok (.iconst 1, 1) := by decide +kernel
theorem dX5_partsOfAll_1 : decode cX5_partsOfAll 1 = .ok (.istore_n 1, 1) := by decide +kernel
theorem dX5_partsOfAll_2 : decode cX5_partsOfAll 2 = .ok (.iconst 0, 1) := by decide +kernel
theorem dX5_partsOfAll_3 : decode cX5_partsOfAll 3 = .ok (.istore_n 2, 1) := by decide +kernel
theorem dX5_partsOfAll_4 : decode cX5_partsOfAll 4 = .ok (.iload_n 2, 1) := by decide +kernel
theorem dX5_partsOfAll_5 : decode cX5_partsOfAll 5 = .ok (.aload_n 0, 1) := by decide +kernel
theorem dX5_partsOfAll_6 : decode cX5_partsOfAll 6 = .ok (.getfield 25, 3) := by decide +kernel
theorem dX5_partsOfAll_9 : decode cX5_partsOfAll 9 = .ok (.getfield 119, 3) := by decide +kernel
theorem dX5_partsOfAll_12 : decode cX5_partsOfAll 12 = .ok (.if_icmp .ge 25, 3) := by decide +kernel
theorem dX5_partsOfAll_15 : decode cX5_partsOfAll 15 = .ok (.aload_n 0, 1) := by decide +kernel
theorem dX5_partsOfAll_16 : decode cX5_partsOfAll 16 = .ok (.getfield 25, 3) := by decide +kernel
theorem dX5_partsOfAll_19 : decode cX5_partsOfAll 19 = .ok (.iload_n 2, 1) := by decide +kernel
theorem dX5_partsOfAll_20 : decode cX5_partsOfAll 20 = .ok (.invokevirtual 157, 3) := by decide +kernel
theorem dX5_partsOfAll_23 : decode cX5_partsOfAll 23 = .ok (.ifCond .ne 8, 3) := by decide +kernel
theorem dX5_partsOfAll_26 : decode cX5_partsOfAll 26 = .ok (.iload_n 1, 1) := by decide +kernel
theorem dX5_partsOfAll_27 : decode cX5_partsOfAll 27 = .ok (.bipush 10, 2) := by decide +kernel
theorem dX5_partsOfAll_29 : decode cX5_partsOfAll 29 = .ok (.imul, 1) := by decide +kernel
theorem dX5_partsOfAll_30 : decode cX5_partsOfAll 30 = .ok (.istore_n 1, 1) := by decide +kernel
theorem dX5_partsOfAll_31 : decode cX5_partsOfAll 31 = .ok (.iinc 2 1, 3) := by decide +kernel
theorem dX5_partsOfAll_34 : decode cX5_partsOfAll 34 = .ok (.goto (-30), 3) := by decide +kernel
theorem dX5_partsOfAll_37 : decode cX5_partsOfAll 37 = .ok (.iload_n 1, 1) := by decide +kernel
theorem dX5_partsOfAll_38 : decode cX5_partsOfAll 38 = .ok (.ireturn, 1) := by decide +kernel
theorem dX5_commonDivisor_0 : decode cX5_commonDivisor 0 = .ok (.iload_n 1, 1) := by decide +kernel
theorem dX5_commonDivisor_1 : decode cX5_commonDivisor 1 = .ok (.istore_n 2, 1) := by decide +kernel
theorem dX5_commonDivisor_2 : decode cX5_commonDivisor 2 = .ok (.iload_n 0, 1) := by decide +kernel
theorem dX5_commonDivisor_3 : decode cX5_commonDivisor 3 = .ok (.istore_n 3, 1) := by decide +kernel
theorem dX5_commonDivisor_4 : decode cX5_commonDivisor 4 = .ok (.iconst 0, 1) := by decide +kernel
theorem dX5_commonDivisor_5 : decode cX5_commonDivisor 5 = .ok (.istore 4, 2) := by decide +kernel
theorem dX5_commonDivisor_7 : decode cX5_commonDivisor 7 = .ok (.iload 4, 2) := by decide +kernel
theorem dX5_commonDivisor_9 : decode cX5_commonDivisor 9 = .ok (.bipush 64, 2) := by decide +kernel
theorem dX5_commonDivisor_11 : decode cX5_commonDivisor 11 = .ok (.if_icmp .ge 23, 3) := by decide +kernel
theorem dX5_commonDivisor_14 : decode cX5_commonDivisor 14 = .ok (.iload_n 3, 1) := by decide +kernel
theorem dX5_commonDivisor_15 : decode cX5_commonDivisor 15 = .ok (.ifCond .eq 19, 3) := by decide +kernel
theorem dX5_commonDivisor_18 : decode cX5_commonDivisor 18 = .ok (.iload_n 2, 1) := by decide +kernel
theorem dX5_commonDivisor_19 : decode cX5_commonDivisor 19 = .ok (.iload_n 3, 1) := by decide +kernel
theorem dX5_commonDivisor_20 : decode cX5_commonDivisor 20 = .ok (.irem, 1) := by decide +kernel
theorem dX5_commonDivisor_21 : decode cX5_commonDivisor 21 = .ok (.istore 5, 2) := by decide +kernel
theorem dX5_commonDivisor_23 : decode cX5_commonDivisor 23 = .ok (.iload_n 3, 1) := by decide +kernel
theorem dX5_commonDivisor_24 : decode cX5_commonDivisor 24 = .ok (.istore_n 2, 1) := by decide +kernel
theorem dX5_commonDivisor_25 : decode cX5_commonDivisor 25 = .ok (.iload 5, 2) := by decide +kernel
theorem dX5_commonDivisor_27 : decode cX5_commonDivisor 27 = .ok (.istore_n 3, 1) := by decide +kernel
theorem dX5_commonDivisor_28 : decode cX5_commonDivisor 28 = .ok (.iinc 4 1, 3) := by decide +kernel
theorem dX5_commonDivisor_31 : decode cX5_commonDivisor 31 = .ok (.goto (-24), 3) := by decide +kernel
theorem dX5_commonDivisor_34 : decode cX5_commonDivisor 34 = .ok (.iload_n 2, 1) := by decide +kernel
theorem dX5_commonDivisor_35 : decode cX5_commonDivisor 35 = .ok (.ireturn, 1) := by decide +kernel
theorem dX5_isOfKind_0 : decode cX5_isOfKind 0 = .ok (.iload_n 0, 1) := by decide +kernel
theorem dX5_isOfKind_1 : decode cX5_isOfKind 1 = .ok (.istore_n 2, 1) := by decide +kernel
theorem dX5_isOfKind_2 : decode cX5_isOfKind 2 = .ok (.iconst 0, 1) := by decide +kernel
theorem dX5_isOfKind_3 : decode cX5_isOfKind 3 = .ok (.istore_n 3, 1) := by decide +kernel
theorem dX5_isOfKind_4 : decode cX5_isOfKind 4 = .ok (.iload_n 3, 1) := by decide +kernel
theorem dX5_isOfKind_5 : decode cX5_isOfKind 5 = .ok (.bipush 6, 2) := by decide +kernel
theorem dX5_isOfKind_7 : decode cX5_isOfKind 7 = .ok (.if_icmp .ge 24, 3) := by decide +kernel
theorem dX5_isOfKind_10 : decode cX5_isOfKind 10 = .ok (.iload_n 2, 1) := by decide +kernel
theorem dX5_isOfKind_11 : decode cX5_isOfKind 11 = .ok (.iload_n 1, 1) := by decide +kernel
theorem dX5_isOfKind_12 : decode cX5_isOfKind 12 = .ok (.if_icmp .eq 19, 3) := by decide +kernel
theorem dX5_isOfKind_15 : decode cX5_isOfKind 15 = .ok (.iload_n 2, 1) := by decide +kernel
theorem dX5_isOfKind_16 : decode cX5_isOfKind 16 = .ok (.ifCond .eq 15, 3) := by decide +kernel
theorem dX5_isOfKind_19 : decode cX5_isOfKind 19 = .ok (.getstatic 261, 3) := by decide +kernel
theorem dX5_isOfKind_22 : decode cX5_isOfKind 22 = .ok (.iload_n 2, 1) := by decide +kernel
theorem dX5_isOfKind_23 : decode cX5_isOfKind 23 = .ok (.iaload, 1) := by decide +kernel
theorem dX5_isOfKind_24 : decode cX5_isOfKind 24 = .ok (.istore_n 2, 1) := by decide +kernel
theorem dX5_isOfKind_25 : decode cX5_isOfKind 25 = .ok (.iinc 3 1, 3) := by decide +kernel
theorem dX5_isOfKind_28 : decode cX5_isOfKind 28 = .ok (.goto (-24), 3) := by decide +kernel
theorem dX5_isOfKind_31 : decode cX5_isOfKind 31 = .ok (.iload_n 2, 1) := by decide +kernel
theorem dX5_isOfKind_32 : decode cX5_isOfKind 32 = .ok (.iload_n 1, 1) := by decide +kernel
theorem dX5_isOfKind_33 : decode cX5_isOfKind 33 = .ok (.if_icmp .ne 7, 3) := by decide +kernel
theorem dX5_isOfKind_36 : decode cX5_isOfKind 36 = .ok (.iconst 1, 1) := by decide +kernel
theorem dX5_isOfKind_37 : decode cX5_isOfKind 37 = .ok (.goto 4, 3) := by decide +kernel
theorem dX5_isOfKind_40 : decode cX5_isOfKind 40 = .ok (.iconst 0, 1) := by decide +kernel
theorem dX5_isOfKind_41 : decode cX5_isOfKind 41 = .ok (.ireturn, 1) := by decide +kernel
theorem dX5_nearestBody_0 : decode cX5_nearestBody 0 = .ok (.iload_n 0, 1) := by decide +kernel
theorem dX5_nearestBody_1 : decode cX5_nearestBody 1 = .ok (.istore_n 2, 1) := by decide +kernel
theorem dX5_nearestBody_2 : decode cX5_nearestBody 2 = .ok (.iconst 0, 1) := by decide +kernel
theorem dX5_nearestBody_3 : decode cX5_nearestBody 3 = .ok (.istore_n 3, 1) := by decide +kernel
theorem dX5_nearestBody_4 : decode cX5_nearestBody 4 = .ok (.iload_n 3, 1) := by decide +kernel
theorem dX5_nearestBody_5 : decode cX5_nearestBody 5 = .ok (.bipush 6, 2) := by decide +kernel
theorem dX5_nearestBody_7 : decode cX5_nearestBody 7 = .ok (.if_icmp .ge 42, 3) := by decide +kernel
theorem dX5_nearestBody_10 : decode cX5_nearestBody 10 = .ok (.iload_n 1, 1) := by decide +kernel
theorem dX5_nearestBody_11 : decode cX5_nearestBody 11 = .ok (.ifCond .ne 11, 3) := by decide +kernel
theorem dX5_nearestBody_14 : decode cX5_nearestBody 14 = .ok (.getstatic 264, 3) := by decide +kernel
theorem dX5_nearestBody_17 : decode cX5_nearestBody 17 = .ok (.iload_n 2, 1) := by decide +kernel
theorem dX5_nearestBody_18 : decode cX5_nearestBody 18 = .ok (.iaload, 1) := by decide +kernel
theorem dX5_nearestBody_19 : decode cX5_nearestBody 19 = .ok (.goto 8, 3) := by decide +kernel
theorem dX5_nearestBody_22 : decode cX5_nearestBody 22 = .ok (.getstatic 267, 3) := by decide +kernel
theorem dX5_nearestBody_25 : decode cX5_nearestBody 25 = .ok (.iload_n 2, 1) := by decide +kernel
theorem dX5_nearestBody_26 : decode cX5_nearestBody 26 = .ok (.iaload, 1) := by decide +kernel
theorem dX5_nearestBody_27 : decode cX5_nearestBody 27 = .ok (.istore 4, 2) := by decide +kernel
theorem dX5_nearestBody_29 : decode cX5_nearestBody 29 = .ok (.iload 4, 2) := by decide +kernel
theorem dX5_nearestBody_31 : decode cX5_nearestBody 31 = .ok (.ifCond .eq 6, 3) := by decide +kernel
theorem dX5_nearestBody_34 : decode cX5_nearestBody 34 = .ok (.iload 4, 2) := by decide +kernel
theorem dX5_nearestBody_36 : decode cX5_nearestBody 36 = .ok (.ireturn, 1) := by decide +kernel
theorem dX5_nearestBody_37 : decode cX5_nearestBody 37 = .ok (.getstatic 261, 3) := by decide +kernel
theorem dX5_nearestBody_40 : decode cX5_nearestBody 40 = .ok (.iload_n 2, 1) := by decide +kernel
theorem dX5_nearestBody_41 : decode cX5_nearestBody 41 = .ok (.iaload, 1) := by decide +kernel
theorem dX5_nearestBody_42 : decode cX5_nearestBody 42 = .ok (.istore_n 2, 1) := by decide +kernel
theorem dX5_nearestBody_43 : decode cX5_nearestBody 43 = .ok (.iinc 3 1, 3) := by decide +kernel
theorem dX5_nearestBody_46 : decode cX5_nearestBody 46 = .ok (.goto (-42), 3) := by decide +kernel
theorem dX5_nearestBody_49 : decode cX5_nearestBody 49 = .ok (.iload_n 1, 1) := by decide +kernel
theorem dX5_nearestBody_50 : decode cX5_nearestBody 50 = .ok (.ifCond .ne 11, 3) := by decide +kernel
theorem dX5_nearestBody_53 : decode cX5_nearestBody 53 = .ok (.getstatic 264, 3) := by decide +kernel
theorem dX5_nearestBody_56 : decode cX5_nearestBody 56 = .ok (.iconst 0, 1) := by decide +kernel
theorem dX5_nearestBody_57 : decode cX5_nearestBody 57 = .ok (.iaload, 1) := by decide +kernel
theorem dX5_nearestBody_58 : decode cX5_nearestBody 58 = .ok (.goto 8, 3) := by decide +kernel
theorem dX5_nearestBody_61 : decode cX5_nearestBody 61 = .ok (.getstatic 267, 3) := by decide +kernel
theorem dX5_nearestBody_64 : decode cX5_nearestBody 64 = .ok (.iconst 0, 1) := by decide +kernel
theorem dX5_nearestBody_65 : decode cX5_nearestBody 65 = .ok (.iaload, 1) := by decide +kernel
theorem dX5_nearestBody_66 : decode cX5_nearestBody 66 = .ok (.ireturn, 1) := by decide +kernel
theorem dX5_answer_0 : decode cX5_answer 0 = .ok (.aload_n 0, 1) := by decide +kernel
theorem dX5_answer_1 : decode cX5_answer 1 = .ok (.aload_n 0, 1) := by decide +kernel
theorem dX5_answer_2 : decode cX5_answer 2 = .ok (.getfield 25, 3) := by decide +kernel
theorem dX5_answer_5 : decode cX5_answer 5 = .ok (.getfield 226, 3) := by decide +kernel
theorem dX5_answer_8 : decode cX5_answer 8 = .ok (.iload_n 2, 1) := by decide +kernel
theorem dX5_answer_9 : decode cX5_answer 9 = .ok (.iaload, 1) := by decide +kernel
theorem dX5_answer_10 : decode cX5_answer 10 = .ok (.iload_n 1, 1) := by decide +kernel
theorem dX5_answer_11 : decode cX5_answer 11 = .ok (.invokestatic 270, 3) := by decide +kernel
theorem dX5_answer_14 : decode cX5_answer 14 = .ok (.iload_n 2, 1) := by decide +kernel
theorem dX5_answer_15 : decode cX5_answer 15 = .ok (.iload_n 3, 1) := by decide +kernel
theorem dX5_answer_16 : decode cX5_answer 16 = .ok (.invokevirtual 273, 3) := by decide +kernel
theorem dX5_answer_19 : decode cX5_answer 19 = .ok (.ireturn, 1) := by decide +kernel
theorem dX5_body_0 : decode cX5_body 0 = .ok (.iload_n 3, 1) := by decide +kernel
theorem dX5_body_1 : decode cX5_body 1 = .ok (.bipush 16, 2) := by decide +kernel
theorem dX5_body_3 : decode cX5_body 3 = .ok (.if_icmp .le 5, 3) := by decide +kernel
theorem dX5_body_6 : decode cX5_body 6 = .ok (.iconst 0, 1) := by decide +kernel
theorem dX5_body_7 : decode cX5_body 7 = .ok (.ireturn, 1) := by decide +kernel
theorem dX5_body_8 : decode cX5_body 8 = .ok (.aload_n 0, 1) := by decide +kernel
theorem dX5_body_9 : decode cX5_body 9 = .ok (.getfield 232, 3) := by decide +kernel
theorem dX5_body_12 : decode cX5_body 12 = .ok (.bipush 16, 2) := by decide +kernel
theorem dX5_body_14 : decode cX5_body 14 = .ok (.if_icmp .ge 23, 3) := by decide +kernel
theorem dX5_body_17 : decode cX5_body 17 = .ok (.aload_n 0, 1) := by decide +kernel
theorem dX5_body_18 : decode cX5_body 18 = .ok (.getfield 50, 3) := by decide +kernel
theorem dX5_body_21 : decode cX5_body 21 = .ok (.aload_n 0, 1) := by decide +kernel
theorem dX5_body_22 : decode cX5_body 22 = .ok (.getfield 232, 3) := by decide +kernel
theorem dX5_body_25 : decode cX5_body 25 = .ok (.iload_n 1, 1) := by decide +kernel
theorem dX5_body_26 : decode cX5_body 26 = .ok (.iastore, 1) := by decide +kernel
theorem dX5_body_27 : decode cX5_body 27 = .ok (.aload_n 0, 1) := by decide +kernel
theorem dX5_body_28 : decode cX5_body 28 = .ok (.dup, 1) := by decide +kernel
theorem dX5_body_29 : decode cX5_body 29 = .ok (.getfield 232, 3) := by decide +kernel
theorem dX5_body_32 : decode cX5_body 32 = .ok (.iconst 1, 1) := by decide +kernel
theorem dX5_body_33 : decode cX5_body 33 = .ok (.iadd, 1) := by decide +kernel
theorem dX5_body_34 : decode cX5_body 34 = .ok (.putfield 232, 3) := by decide +kernel
theorem dX5_body_37 : decode cX5_body 37 = .ok (.iload_n 3, 1) := by decide +kernel
theorem dX5_body_38 : decode cX5_body 38 = .ok (.iconst 1, 1) := by decide +kernel
theorem dX5_body_39 : decode cX5_body 39 = .ok (.iadd, 1) := by decide +kernel
theorem dX5_body_40 : decode cX5_body 40 = .ok (.istore 4, 2) := by decide +kernel
theorem dX5_body_42 : decode cX5_body 42 = .ok (.iload_n 1, 1) := by decide +kernel
theorem dX5_body_43 : decode cX5_body 43 = .ok (.tableswitch 212 10 24 #[73, 83, 102, 114, 127, 212, 212, 212, 212, 212, 139, 141, 167, 181, 200], 73) := by decide +kernel
theorem dX5_body_116 : decode cX5_body 116 = .ok (.aload_n 0, 1) := by decide +kernel
theorem dX5_body_117 : decode cX5_body 117 = .ok (.getfield 25, 3) := by decide +kernel
theorem dX5_body_120 : decode cX5_body 120 = .ok (.getfield 151, 3) := by decide +kernel
theorem dX5_body_123 : decode cX5_body 123 = .ok (.iload_n 2, 1) := by decide +kernel
theorem dX5_body_124 : decode cX5_body 124 = .ok (.iaload, 1) := by decide +kernel
theorem dX5_body_125 : decode cX5_body 125 = .ok (.ireturn, 1) := by decide +kernel
theorem dX5_body_126 : decode cX5_body 126 = .ok (.aload_n 0, 1) := by decide +kernel
theorem dX5_body_127 : decode cX5_body 127 = .ok (.bipush 10, 2) := by decide +kernel
theorem dX5_body_129 : decode cX5_body 129 = .ok (.iload_n 2, 1) := by decide +kernel
theorem dX5_body_130 : decode cX5_body 130 = .ok (.iload 4, 2) := by decide +kernel
theorem dX5_body_132 : decode cX5_body 132 = .ok (.invokevirtual 273, 3) := by decide +kernel
theorem dX5_body_135 : decode cX5_body 135 = .ok (.aload_n 0, 1) := by decide +kernel
theorem dX5_body_136 : decode cX5_body 136 = .ok (.iconst 1, 1) := by decide +kernel
theorem dX5_body_137 : decode cX5_body 137 = .ok (.iload_n 2, 1) := by decide +kernel
theorem dX5_body_138 : decode cX5_body 138 = .ok (.iload 4, 2) := by decide +kernel
theorem dX5_body_140 : decode cX5_body 140 = .ok (.invokevirtual 235, 3) := by decide +kernel
theorem dX5_body_143 : decode cX5_body 143 = .ok (.iadd, 1) := by decide +kernel
theorem dX5_body_144 : decode cX5_body 144 = .ok (.ireturn, 1) := by decide +kernel
theorem dX5_body_145 : decode cX5_body 145 = .ok (.iconst 0, 1) := by decide +kernel
theorem dX5_body_146 : decode cX5_body 146 = .ok (.aload_n 0, 1) := by decide +kernel
theorem dX5_body_147 : decode cX5_body 147 = .ok (.bipush 11, 2) := by decide +kernel
theorem dX5_body_149 : decode cX5_body 149 = .ok (.iload_n 2, 1) := by decide +kernel
theorem dX5_body_150 : decode cX5_body 150 = .ok (.iload 4, 2) := by decide +kernel
theorem dX5_body_152 : decode cX5_body 152 = .ok (.invokevirtual 273, 3) := by decide +kernel
theorem dX5_body_155 : decode cX5_body 155 = .ok (.isub, 1) := by decide +kernel
theorem dX5_body_156 : decode cX5_body 156 = .ok (.ireturn, 1) := by decide +kernel
theorem dX5_body_157 : decode cX5_body 157 = .ok (.aload_n 0, 1) := by decide +kernel
theorem dX5_body_158 : decode cX5_body 158 = .ok (.bipush 10, 2) := by decide +kernel
theorem dX5_body_160 : decode cX5_body 160 = .ok (.iload_n 2, 1) := by decide +kernel
theorem dX5_body_161 : decode cX5_body 161 = .ok (.iload 4, 2) := by decide +kernel
theorem dX5_body_163 : decode cX5_body 163 = .ok (.invokevirtual 273, 3) := by decide +kernel
theorem dX5_body_166 : decode cX5_body 166 = .ok (.bipush 100, 2) := by decide +kernel
theorem dX5_body_168 : decode cX5_body 168 = .ok (.isub, 1) := by decide +kernel
theorem dX5_body_169 : decode cX5_body 169 = .ok (.ireturn, 1) := by decide +kernel
theorem dX5_body_170 : decode cX5_body 170 = .ok (.iconst 2, 1) := by decide +kernel
theorem dX5_body_171 : decode cX5_body 171 = .ok (.aload_n 0, 1) := by decide +kernel
theorem dX5_body_172 : decode cX5_body 172 = .ok (.bipush 13, 2) := by decide +kernel
theorem dX5_body_174 : decode cX5_body 174 = .ok (.iload_n 2, 1) := by decide +kernel
theorem dX5_body_175 : decode cX5_body 175 = .ok (.iload 4, 2) := by decide +kernel
theorem dX5_body_177 : decode cX5_body 177 = .ok (.invokevirtual 273, 3) := by decide +kernel
theorem dX5_body_180 : decode cX5_body 180 = .ok (.imul, 1) := by decide +kernel
theorem dX5_body_181 : decode cX5_body 181 = .ok (.ireturn, 1) := by decide +kernel
theorem dX5_body_182 : decode cX5_body 182 = .ok (.iload_n 2, 1) := by decide +kernel
theorem dX5_body_183 : decode cX5_body 183 = .ok (.ireturn, 1) := by decide +kernel
theorem dX5_body_184 : decode cX5_body 184 = .ok (.aload_n 0, 1) := by decide +kernel
theorem dX5_body_185 : decode cX5_body 185 = .ok (.bipush 20, 2) := by decide +kernel
theorem dX5_body_187 : decode cX5_body 187 = .ok (.iload_n 2, 1) := by decide +kernel
theorem dX5_body_188 : decode cX5_body 188 = .ok (.iload 4, 2) := by decide +kernel
theorem dX5_body_190 : decode cX5_body 190 = .ok (.invokevirtual 273, 3) := by decide +kernel
theorem dX5_body_193 : decode cX5_body 193 = .ok (.aload_n 0, 1) := by decide +kernel
theorem dX5_body_194 : decode cX5_body 194 = .ok (.getfield 25, 3) := by decide +kernel
theorem dX5_body_197 : decode cX5_body 197 = .ok (.iload_n 2, 1) := by decide +kernel
theorem dX5_body_198 : decode cX5_body 198 = .ok (.aload_n 0, 1) := by decide +kernel
theorem dX5_body_199 : decode cX5_body 199 = .ok (.getfield 25, 3) := by decide +kernel
theorem dX5_body_202 : decode cX5_body 202 = .ok (.getfield 128, 3) := by decide +kernel
theorem dX5_body_205 : decode cX5_body 205 = .ok (.invokevirtual 154, 3) := by decide +kernel
theorem dX5_body_208 : decode cX5_body 208 = .ok (.iadd, 1) := by decide +kernel
theorem dX5_body_209 : decode cX5_body 209 = .ok (.ireturn, 1) := by decide +kernel
theorem dX5_body_210 : decode cX5_body 210 = .ok (.aload_n 0, 1) := by decide +kernel
theorem dX5_body_211 : decode cX5_body 211 = .ok (.bipush 21, 2) := by decide +kernel
theorem dX5_body_213 : decode cX5_body 213 = .ok (.iload_n 2, 1) := by decide +kernel
theorem dX5_body_214 : decode cX5_body 214 = .ok (.iload 4, 2) := by decide +kernel
theorem dX5_body_216 : decode cX5_body 216 = .ok (.invokevirtual 273, 3) := by decide +kernel
theorem dX5_body_219 : decode cX5_body 219 = .ok (.sipush 1000, 3) := by decide +kernel
theorem dX5_body_222 : decode cX5_body 222 = .ok (.isub, 1) := by decide +kernel
theorem dX5_body_223 : decode cX5_body 223 = .ok (.ireturn, 1) := by decide +kernel
theorem dX5_body_224 : decode cX5_body 224 = .ok (.aload_n 0, 1) := by decide +kernel
theorem dX5_body_225 : decode cX5_body 225 = .ok (.bipush 20, 2) := by decide +kernel
theorem dX5_body_227 : decode cX5_body 227 = .ok (.iload_n 2, 1) := by decide +kernel
theorem dX5_body_228 : decode cX5_body 228 = .ok (.iload 4, 2) := by decide +kernel
theorem dX5_body_230 : decode cX5_body 230 = .ok (.invokevirtual 273, 3) := by decide +kernel
theorem dX5_body_233 : decode cX5_body 233 = .ok (.aload_n 0, 1) := by decide +kernel
theorem dX5_body_234 : decode cX5_body 234 = .ok (.iconst 0, 1) := by decide +kernel
theorem dX5_body_235 : decode cX5_body 235 = .ok (.iload_n 2, 1) := by decide +kernel
theorem dX5_body_236 : decode cX5_body 236 = .ok (.iload 4, 2) := by decide +kernel
theorem dX5_body_238 : decode cX5_body 238 = .ok (.invokevirtual 235, 3) := by decide +kernel
theorem dX5_body_241 : decode cX5_body 241 = .ok (.isub, 1) := by decide +kernel
theorem dX5_body_242 : decode cX5_body 242 = .ok (.ireturn, 1) := by decide +kernel
theorem dX5_body_243 : decode cX5_body 243 = .ok (.iconst 2, 1) := by decide +kernel
theorem dX5_body_244 : decode cX5_body 244 = .ok (.aload_n 0, 1) := by decide +kernel
theorem dX5_body_245 : decode cX5_body 245 = .ok (.bipush 21, 2) := by decide +kernel
theorem dX5_body_247 : decode cX5_body 247 = .ok (.iload_n 2, 1) := by decide +kernel
theorem dX5_body_248 : decode cX5_body 248 = .ok (.iload 4, 2) := by decide +kernel
theorem dX5_body_250 : decode cX5_body 250 = .ok (.invokevirtual 273, 3) := by decide +kernel
theorem dX5_body_253 : decode cX5_body 253 = .ok (.imul, 1) := by decide +kernel
theorem dX5_body_254 : decode cX5_body 254 = .ok (.ireturn, 1) := by decide +kernel
theorem dX5_body_255 : decode cX5_body 255 = .ok (.iconst 0, 1) := by decide +kernel
theorem dX5_body_256 : decode cX5_body 256 = .ok (.ireturn, 1) := by decide +kernel
end
section
theorem dX6_init_0 : decode cX6_init 0 = .ok (.aload_n 0, 1) := by decide +kernel
theorem dX6_init_1 : decode cX6_init 1 = .ok (.invokespecial 1, 3) := by decide +kernel
theorem dX6_init_4 : decode cX6_init 4 = .ok (.aload_n 0, 1) := by decide +kernel
theorem dX6_init_5 : decode cX6_init 5 = .ok (.bipush 8, 2) := by decide +kernel
theorem dX6_init_7 : decode cX6_init 7 = .ok (.newarray .int, 2) := by decide +kernel
theorem dX6_init_9 : decode cX6_init 9 = .ok (.putfield 7, 3) := by decide +kernel
theorem dX6_init_12 : decode cX6_init 12 = .ok (.aload_n 0, 1) := by decide +kernel
theorem dX6_init_13 : decode cX6_init 13 = .ok (.bipush 8, 2) := by decide +kernel
theorem dX6_init_15 : decode cX6_init 15 = .ok (.newarray .int, 2) := by decide +kernel
theorem dX6_init_17 : decode cX6_init 17 = .ok (.putfield 13, 3) := by decide +kernel
theorem dX6_init_20 : decode cX6_init 20 = .ok (.aload_n 0, 1) := by decide +kernel
theorem dX6_init_21 : decode cX6_init 21 = .ok (.sipush 320, 3) := by decide +kernel
theorem dX6_init_24 : decode cX6_init 24 = .ok (.newarray .int, 2) := by decide +kernel
theorem dX6_init_26 : decode cX6_init 26 = .ok (.putfield 16, 3) := by decide +kernel
theorem dX6_init_29 : decode cX6_init 29 = .ok (.aload_n 0, 1) := by decide +kernel
theorem dX6_init_30 : decode cX6_init 30 = .ok (.bipush 36, 2) := by decide +kernel
theorem dX6_init_32 : decode cX6_init 32 = .ok (.newarray .int, 2) := by decide +kernel
theorem dX6_init_34 : decode cX6_init 34 = .ok (.putfield 19, 3) := by decide +kernel
theorem dX6_init_37 : decode cX6_init 37 = .ok (.aload_n 0, 1) := by decide +kernel
theorem dX6_init_38 : decode cX6_init 38 = .ok (.bipush 36, 2) := by decide +kernel
theorem dX6_init_40 : decode cX6_init 40 = .ok (.newarray .int, 2) := by decide +kernel
theorem dX6_init_42 : decode cX6_init 42 = .ok (.putfield 22, 3) := by decide +kernel
theorem dX6_init_45 : decode cX6_init 45 = .ok (.aload_n 0, 1) := by decide +kernel
theorem dX6_init_46 : decode cX6_init 46 = .ok (.bipush 36, 2) := by decide +kernel
theorem dX6_init_48 : decode cX6_init 48 = .ok (.newarray .int, 2) := by decide +kernel
theorem dX6_init_50 : decode cX6_init 50 = .ok (.putfield 25, 3) := by decide +kernel
theorem dX6_init_53 : decode cX6_init 53 = .ok (.aload_n 0, 1) := by decide +kernel
theorem dX6_init_54 : decode cX6_init 54 = .ok (.sipush 864, 3) := by decide +kernel
theorem dX6_init_57 : decode cX6_init 57 = .ok (.newarray .int, 2) := by decide +kernel
theorem dX6_init_59 : decode cX6_init 59 = .ok (.putfield 28, 3) := by decide +kernel
theorem dX6_init_62 : decode cX6_init 62 = .ok (.aload_n 0, 1) := by decide +kernel
theorem dX6_init_63 : decode cX6_init 63 = .ok (.bipush 72, 2) := by decide +kernel
theorem dX6_init_65 : decode cX6_init 65 = .ok (.newarray .int, 2) := by decide +kernel
theorem dX6_init_67 : decode cX6_init 67 = .ok (.putfield 31, 3) := by decide +kernel
theorem dX6_init_70 : decode cX6_init 70 = .ok (.aload_n 0, 1) := by decide +kernel
theorem dX6_init_71 : decode cX6_init 71 = .ok (.iconst 2, 1) := by decide +kernel
theorem dX6_init_72 : decode cX6_init 72 = .ok (.newarray .boolean, 2) := by decide +kernel
theorem dX6_init_74 : decode cX6_init 74 = .ok (.putfield 34, 3) := by decide +kernel
theorem dX6_init_77 : decode cX6_init 77 = .ok (.aload_n 0, 1) := by decide +kernel
theorem dX6_init_78 : decode cX6_init 78 = .ok (.bipush 120, 2) := by decide +kernel
theorem dX6_init_80 : decode cX6_init 80 = .ok (.newarray .int, 2) := by decide +kernel
theorem dX6_init_82 : decode cX6_init 82 = .ok (.putfield 38, 3) := by decide +kernel
theorem dX6_init_85 : decode cX6_init 85 = .ok (.aload_n 0, 1) := by decide +kernel
theorem dX6_init_86 : decode cX6_init 86 = .ok (.bipush 16, 2) := by decide +kernel
theorem dX6_init_88 : decode cX6_init 88 = .ok (.newarray .int, 2) := by decide +kernel
theorem dX6_init_90 : decode cX6_init 90 = .ok (.putfield 41, 3) := by decide +kernel
theorem dX6_init_93 : decode cX6_init 93 = .ok (.aload_n 0, 1) := by decide +kernel
theorem dX6_init_94 : decode cX6_init 94 = .ok (.bipush 6, 2) := by decide +kernel
theorem dX6_init_96 : decode cX6_init 96 = .ok (.newarray .int, 2) := by decide +kernel
theorem dX6_init_98 : decode cX6_init 98 = .ok (.putfield 44, 3) := by decide +kernel
theorem dX6_init_101 : decode cX6_init 101 = .ok (.aload_n 0, 1) := by decide +kernel
theorem dX6_init_102 : decode cX6_init 102 = .ok (.bipush 6, 2) := by decide +kernel
theorem dX6_init_104 : decode cX6_init 104 = .ok (.newarray .int, 2) := by decide +kernel
theorem dX6_init_106 : decode cX6_init 106 = .ok (.putfield 47, 3) := by decide +kernel
theorem dX6_init_109 : decode cX6_init 109 = .ok (.iconst 0, 1) := by decide +kernel
theorem dX6_init_110 : decode cX6_init 110 = .ok (.istore_n 1, 1) := by decide +kernel
theorem dX6_init_111 : decode cX6_init 111 = .ok (.iload_n 1, 1) := by decide +kernel
theorem dX6_init_112 : decode cX6_init 112 = .ok (.bipush 8, 2) := by decide +kernel
theorem dX6_init_114 : decode cX6_init 114 = .ok (.if_icmp .ge 16, 3) := by decide +kernel
theorem dX6_init_117 : decode cX6_init 117 = .ok (.aload_n 0, 1) := by decide +kernel
theorem dX6_init_118 : decode cX6_init 118 = .ok (.getfield 13, 3) := by decide +kernel
theorem dX6_init_121 : decode cX6_init 121 = .ok (.iload_n 1, 1) := by decide +kernel
theorem dX6_init_122 : decode cX6_init 122 = .ok (.iconst (-1), 1) := by decide +kernel
theorem dX6_init_123 : decode cX6_init 123 = .ok (.iastore, 1) := by decide +kernel
theorem dX6_init_124 : decode cX6_init 124 = .ok (.iinc 1 1, 3) := by decide +kernel
theorem dX6_init_127 : decode cX6_init 127 = .ok (.goto (-16), 3) := by decide +kernel
theorem dX6_init_130 : decode cX6_init 130 = .ok (.return_, 1) := by decide +kernel
theorem dX6_in_0 : decode cX6_in 0 = .ok (.lload_n 0, 1) := by decide +kernel
theorem dX6_in_1 : decode cX6_in 1 = .ok (.lload_n 2, 1) := by decide +kernel
theorem dX6_in_2 : decode cX6_in 2 = .ok (.lcmp, 1) := by decide +kernel
theorem dX6_in_3 : decode cX6_in 3 = .ok (.ifCond .lt 14, 3) := by decide +kernel
theorem dX6_in_6 : decode cX6_in 6 = .ok (.lload_n 0, 1) := by decide +kernel
theorem dX6_in_7 : decode cX6_in 7 = .ok (.lload 4, 2) := by decide +kernel
theorem dX6_in_9 : decode cX6_in 9 = .ok (.lcmp, 1) := by decide +kernel
theorem dX6_in_10 : decode cX6_in 10 = .ok (.ifCond .gt 7, 3) := by decide +kernel
theorem dX6_in_13 : decode cX6_in 13 = .ok (.iconst 1, 1) := by decide +kernel
theorem dX6_in_14 : decode cX6_in 14 = .ok (.goto 4, 3) := by decide +kernel
theorem dX6_in_17 : decode cX6_in 17 = .ok (.iconst 0, 1) := by decide +kernel
theorem dX6_in_18 : decode cX6_in 18 = .ok (.ireturn, 1) := by decide +kernel
theorem dX6_found_0 : decode cX6_found 0 = .ok (.aload_n 0, 1) := by decide +kernel
theorem dX6_found_1 : decode cX6_found 1 = .ok (.iload_n 1, 1) := by decide +kernel
theorem dX6_found_2 : decode cX6_found 2 = .ok (.putfield 50, 3) := by decide +kernel
theorem dX6_found_5 : decode cX6_found 5 = .ok (.ldc 54, 2) := by decide +kernel
theorem dX6_found_7 : decode cX6_found 7 = .ok (.iload_n 1, 1) := by decide +kernel
theorem dX6_found_8 : decode cX6_found 8 = .ok (.isub, 1) := by decide +kernel
theorem dX6_found_9 : decode cX6_found 9 = .ok (.ireturn, 1) := by decide +kernel
theorem dX6_well_0 : decode cX6_well 0 = .ok (.aload_n 0, 1) := by decide +kernel
theorem dX6_well_1 : decode cX6_well 1 = .ok (.iconst 0, 1) := by decide +kernel
theorem dX6_well_2 : decode cX6_well 2 = .ok (.putfield 50, 3) := by decide +kernel
theorem dX6_well_5 : decode cX6_well 5 = .ok (.iload_n 1, 1) := by decide +kernel
theorem dX6_well_6 : decode cX6_well 6 = .ok (.ireturn, 1) := by decide +kernel
theorem dX6_isRow_0 : decode cX6_isRow 0 = .ok (.iload_n 0, 1) := by decide +kernel
theorem dX6_isRow_1 : decode cX6_isRow 1 = .ok (.i2l, 1) := by decide +kernel
theorem dX6_isRow_2 : decode cX6_isRow 2 = .ok (.lconst 0, 1) := by decide +kernel
theorem dX6_isRow_3 : decode cX6_isRow 3 = .ok (.ldc2_w 55, 3) := by decide +kernel
theorem dX6_isRow_6 : decode cX6_isRow 6 = .ok (.invokestatic 57, 3) := by decide +kernel
theorem dX6_isRow_9 : decode cX6_isRow 9 = .ok (.ireturn, 1) := by decide +kernel
theorem dX6_row_0 : decode cX6_row 0 = .ok (.iload_n 1, 1) := by decide +kernel
theorem dX6_row_1 : decode cX6_row 1 = .ok (.invokestatic 61, 3) := by decide +kernel
theorem dX6_row_4 : decode cX6_row 4 = .ok (.ifCond .eq 21, 3) := by decide +kernel
theorem dX6_row_7 : decode cX6_row 7 = .ok (.iload_n 2, 1) := by decide +kernel
theorem dX6_row_8 : decode cX6_row 8 = .ok (.i2l, 1) := by decide +kernel
theorem dX6_row_9 : decode cX6_row 9 = .ok (.lconst 0, 1) := by decide +kernel
theorem dX6_row_10 : decode cX6_row 10 = .ok (.ldc2_w 65, 3) := by decide +kernel
theorem dX6_row_13 : decode cX6_row 13 = .ok (.invokestatic 57, 3) := by decide +kernel
theorem dX6_row_16 : decode cX6_row 16 = .ok (.ifCond .eq 9, 3) := by decide +kernel
theorem dX6_row_19 : decode cX6_row 19 = .ok (.iload_n 3, 1) := by decide +kernel
theorem dX6_row_20 : decode cX6_row 20 = .ok (.bipush 40, 2) := by decide +kernel
theorem dX6_row_22 : decode cX6_row 22 = .ok (.if_icmp .le 6, 3) := by decide +kernel
theorem dX6_row_25 : decode cX6_row 25 = .ok (.ldc 67, 2) := by decide +kernel
theorem dX6_row_27 : decode cX6_row 27 = .ok (.ireturn, 1) := by decide +kernel
theorem dX6_row_28 : decode cX6_row 28 = .ok (.iload_n 3, 1) := by decide +kernel
theorem dX6_row_29 : decode cX6_row 29 = .ok (.ifCond .ge 9, 3) := by decide +kernel
theorem dX6_row_32 : decode cX6_row 32 = .ok (.aload_n 0, 1) := by decide +kernel
theorem dX6_row_33 : decode cX6_row 33 = .ok (.iconst 4, 1) := by decide +kernel
theorem dX6_row_34 : decode cX6_row 34 = .ok (.invokevirtual 68, 3) := by decide +kernel
theorem dX6_row_37 : decode cX6_row 37 = .ok (.ireturn, 1) := by decide +kernel
theorem dX6_row_38 : decode cX6_row 38 = .ok (.aload_n 0, 1) := by decide +kernel
theorem dX6_row_39 : decode cX6_row 39 = .ok (.getfield 7, 3) := by decide +kernel
theorem dX6_row_42 : decode cX6_row 42 = .ok (.iload_n 1, 1) := by decide +kernel
theorem dX6_row_43 : decode cX6_row 43 = .ok (.iload_n 2, 1) := by decide +kernel
theorem dX6_row_44 : decode cX6_row 44 = .ok (.iastore, 1) := by decide +kernel
theorem dX6_row_45 : decode cX6_row 45 = .ok (.aload_n 0, 1) := by decide +kernel
theorem dX6_row_46 : decode cX6_row 46 = .ok (.getfield 13, 3) := by decide +kernel
theorem dX6_row_49 : decode cX6_row 49 = .ok (.iload_n 1, 1) := by decide +kernel
theorem dX6_row_50 : decode cX6_row 50 = .ok (.iload_n 3, 1) := by decide +kernel
theorem dX6_row_51 : decode cX6_row 51 = .ok (.iastore, 1) := by decide +kernel
theorem dX6_row_52 : decode cX6_row 52 = .ok (.iconst 0, 1) := by decide +kernel
theorem dX6_row_53 : decode cX6_row 53 = .ok (.istore 4, 2) := by decide +kernel
theorem dX6_row_55 : decode cX6_row 55 = .ok (.iload 4, 2) := by decide +kernel
theorem dX6_row_57 : decode cX6_row 57 = .ok (.bipush 40, 2) := by decide +kernel
theorem dX6_row_59 : decode cX6_row 59 = .ok (.if_icmp .ge 22, 3) := by decide +kernel
theorem dX6_row_62 : decode cX6_row 62 = .ok (.aload_n 0, 1) := by decide +kernel
theorem dX6_row_63 : decode cX6_row 63 = .ok (.getfield 16, 3) := by decide +kernel
theorem dX6_row_66 : decode cX6_row 66 = .ok (.bipush 40, 2) := by decide +kernel
theorem dX6_row_68 : decode cX6_row 68 = .ok (.iload_n 1, 1) := by decide +kernel
theorem dX6_row_69 : decode cX6_row 69 = .ok (.imul, 1) := by decide +kernel
theorem dX6_row_70 : decode cX6_row 70 = .ok (.iload 4, 2) := by decide +kernel
theorem dX6_row_72 : decode cX6_row 72 = .ok (.iadd, 1) := by decide +kernel
theorem dX6_row_73 : decode cX6_row 73 = .ok (.iconst 0, 1) := by decide +kernel
theorem dX6_row_74 : decode cX6_row 74 = .ok (.iastore, 1) := by decide +kernel
theorem dX6_row_75 : decode cX6_row 75 = .ok (.iinc 4 1, 3) := by decide +kernel
theorem dX6_row_78 : decode cX6_row 78 = .ok (.goto (-23), 3) := by decide +kernel
theorem dX6_row_81 : decode cX6_row 81 = .ok (.aload_n 0, 1) := by decide +kernel
theorem dX6_row_82 : decode cX6_row 82 = .ok (.iload_n 3, 1) := by decide +kernel
theorem dX6_row_83 : decode cX6_row 83 = .ok (.invokevirtual 72, 3) := by decide +kernel
theorem dX6_row_86 : decode cX6_row 86 = .ok (.ireturn, 1) := by decide +kernel
theorem dX6_set_0 : decode cX6_set 0 = .ok (.iload_n 1, 1) := by decide +kernel
theorem dX6_set_1 : decode cX6_set 1 = .ok (.invokestatic 61, 3) := by decide +kernel
theorem dX6_set_4 : decode cX6_set 4 = .ok (.ifCond .ne 6, 3) := by decide +kernel
theorem dX6_set_7 : decode cX6_set 7 = .ok (.ldc 67, 2) := by decide +kernel
theorem dX6_set_9 : decode cX6_set 9 = .ok (.ireturn, 1) := by decide +kernel
theorem dX6_set_10 : decode cX6_set 10 = .ok (.aload_n 0, 1) := by decide +kernel
theorem dX6_set_11 : decode cX6_set 11 = .ok (.getfield 13, 3) := by decide +kernel
theorem dX6_set_14 : decode cX6_set 14 = .ok (.iload_n 1, 1) := by decide +kernel
theorem dX6_set_15 : decode cX6_set 15 = .ok (.iaload, 1) := by decide +kernel
theorem dX6_set_16 : decode cX6_set 16 = .ok (.ifCond .ge 9, 3) := by decide +kernel
theorem dX6_set_19 : decode cX6_set 19 = .ok (.aload_n 0, 1) := by decide +kernel
theorem dX6_set_20 : decode cX6_set 20 = .ok (.iconst 1, 1) := by decide +kernel
theorem dX6_set_21 : decode cX6_set 21 = .ok (.invokevirtual 68, 3) := by decide +kernel
theorem dX6_set_24 : decode cX6_set 24 = .ok (.ireturn, 1) := by decide +kernel
theorem dX6_set_25 : decode cX6_set 25 = .ok (.iload_n 2, 1) := by decide +kernel
theorem dX6_set_26 : decode cX6_set 26 = .ok (.i2l, 1) := by decide +kernel
theorem dX6_set_27 : decode cX6_set 27 = .ok (.lconst 0, 1) := by decide +kernel
theorem dX6_set_28 : decode cX6_set 28 = .ok (.aload_n 0, 1) := by decide +kernel
theorem dX6_set_29 : decode cX6_set 29 = .ok (.getfield 13, 3) := by decide +kernel
theorem dX6_set_32 : decode cX6_set 32 = .ok (.iload_n 1, 1) := by decide +kernel
theorem dX6_set_33 : decode cX6_set 33 = .ok (.iaload, 1) := by decide +kernel
theorem dX6_set_34 : decode cX6_set 34 = .ok (.iconst 1, 1) := by decide +kernel
theorem dX6_set_35 : decode cX6_set 35 = .ok (.isub, 1) := by decide +kernel
theorem dX6_set_36 : decode cX6_set 36 = .ok (.i2l, 1) := by decide +kernel
theorem dX6_set_37 : decode cX6_set 37 = .ok (.invokestatic 57, 3) := by decide +kernel
theorem dX6_set_40 : decode cX6_set 40 = .ok (.ifCond .ne 9, 3) := by decide +kernel
theorem dX6_set_43 : decode cX6_set 43 = .ok (.aload_n 0, 1) := by decide +kernel
theorem dX6_set_44 : decode cX6_set 44 = .ok (.iconst 2, 1) := by decide +kernel
theorem dX6_set_45 : decode cX6_set 45 = .ok (.invokevirtual 68, 3) := by decide +kernel
theorem dX6_set_48 : decode cX6_set 48 = .ok (.ireturn, 1) := by decide +kernel
theorem dX6_set_49 : decode cX6_set 49 = .ok (.aload_n 0, 1) := by decide +kernel
theorem dX6_set_50 : decode cX6_set 50 = .ok (.getfield 16, 3) := by decide +kernel
theorem dX6_set_53 : decode cX6_set 53 = .ok (.bipush 40, 2) := by decide +kernel
theorem dX6_set_55 : decode cX6_set 55 = .ok (.iload_n 1, 1) := by decide +kernel
theorem dX6_set_56 : decode cX6_set 56 = .ok (.imul, 1) := by decide +kernel
theorem dX6_set_57 : decode cX6_set 57 = .ok (.iload_n 2, 1) := by decide +kernel
theorem dX6_set_58 : decode cX6_set 58 = .ok (.iadd, 1) := by decide +kernel
theorem dX6_set_59 : decode cX6_set 59 = .ok (.aload_n 0, 1) := by decide +kernel
theorem dX6_set_60 : decode cX6_set 60 = .ok (.getfield 7, 3) := by decide +kernel
theorem dX6_set_63 : decode cX6_set 63 = .ok (.iload_n 1, 1) := by decide +kernel
theorem dX6_set_64 : decode cX6_set 64 = .ok (.iaload, 1) := by decide +kernel
theorem dX6_set_65 : decode cX6_set 65 = .ok (.ifCond .ne 8, 3) := by decide +kernel
theorem dX6_set_68 : decode cX6_set 68 = .ok (.iload_n 3, 1) := by decide +kernel
theorem dX6_set_69 : decode cX6_set 69 = .ok (.i2b, 1) := by decide +kernel
theorem dX6_set_70 : decode cX6_set 70 = .ok (.goto 19, 3) := by decide +kernel
theorem dX6_set_73 : decode cX6_set 73 = .ok (.aload_n 0, 1) := by decide +kernel
theorem dX6_set_74 : decode cX6_set 74 = .ok (.getfield 7, 3) := by decide +kernel
theorem dX6_set_77 : decode cX6_set 77 = .ok (.iload_n 1, 1) := by decide +kernel
theorem dX6_set_78 : decode cX6_set 78 = .ok (.iaload, 1) := by decide +kernel
theorem dX6_set_79 : decode cX6_set 79 = .ok (.iconst 1, 1) := by decide +kernel
theorem dX6_set_80 : decode cX6_set 80 = .ok (.if_icmp .ne 8, 3) := by decide +kernel
theorem dX6_set_83 : decode cX6_set 83 = .ok (.iload_n 3, 1) := by decide +kernel
theorem dX6_set_84 : decode cX6_set 84 = .ok (.i2s, 1) := by decide +kernel
theorem dX6_set_85 : decode cX6_set 85 = .ok (.goto 4, 3) := by decide +kernel
theorem dX6_set_88 : decode cX6_set 88 = .ok (.iload_n 3, 1) := by decide +kernel
theorem dX6_set_89 : decode cX6_set 89 = .ok (.iastore, 1) := by decide +kernel
theorem dX6_set_90 : decode cX6_set 90 = .ok (.aload_n 0, 1) := by decide +kernel
theorem dX6_set_91 : decode cX6_set 91 = .ok (.aload_n 0, 1) := by decide +kernel
theorem dX6_set_92 : decode cX6_set 92 = .ok (.getfield 16, 3) := by decide +kernel
theorem dX6_set_95 : decode cX6_set 95 = .ok (.bipush 40, 2) := by decide +kernel
theorem dX6_set_97 : decode cX6_set 97 = .ok (.iload_n 1, 1) := by decide +kernel
theorem dX6_set_98 : decode cX6_set 98 = .ok (.imul, 1) := by decide +kernel
theorem dX6_set_99 : decode cX6_set 99 = .ok (.iload_n 2, 1) := by decide +kernel
theorem dX6_set_100 : decode cX6_set 100 = .ok (.iadd, 1) := by decide +kernel
theorem dX6_set_101 : decode cX6_set 101 = .ok (.iaload, 1) := by decide +kernel
theorem dX6_set_102 : decode cX6_set 102 = .ok (.invokevirtual 72, 3) := by decide +kernel
theorem dX6_set_105 : decode cX6_set 105 = .ok (.ireturn, 1) := by decide +kernel
theorem dX6_copy_0 : decode cX6_copy 0 = .ok (.iload_n 1, 1) := by decide +kernel
theorem dX6_copy_1 : decode cX6_copy 1 = .ok (.invokestatic 61, 3) := by decide +kernel
theorem dX6_copy_4 : decode cX6_copy 4 = .ok (.ifCond .eq 10, 3) := by decide +kernel
theorem dX6_copy_7 : decode cX6_copy 7 = .ok (.iload_n 3, 1) := by decide +kernel
theorem dX6_copy_8 : decode cX6_copy 8 = .ok (.invokestatic 61, 3) := by decide +kernel
theorem dX6_copy_11 : decode cX6_copy 11 = .ok (.ifCond .ne 6, 3) := by decide +kernel
theorem dX6_copy_14 : decode cX6_copy 14 = .ok (.ldc 67, 2) := by decide +kernel
theorem dX6_copy_16 : decode cX6_copy 16 = .ok (.ireturn, 1) := by decide +kernel
theorem dX6_copy_17 : decode cX6_copy 17 = .ok (.aload_n 0, 1) := by decide +kernel
theorem dX6_copy_18 : decode cX6_copy 18 = .ok (.getfield 13, 3) := by decide +kernel
theorem dX6_copy_21 : decode cX6_copy 21 = .ok (.iload_n 1, 1) := by decide +kernel
theorem dX6_copy_22 : decode cX6_copy 22 = .ok (.iaload, 1) := by decide +kernel
theorem dX6_copy_23 : decode cX6_copy 23 = .ok (.ifCond .lt 12, 3) := by decide +kernel
theorem dX6_copy_26 : decode cX6_copy 26 = .ok (.aload_n 0, 1) := by decide +kernel
theorem dX6_copy_27 : decode cX6_copy 27 = .ok (.getfield 13, 3) := by decide +kernel
theorem dX6_copy_30 : decode cX6_copy 30 = .ok (.iload_n 3, 1) := by decide +kernel
theorem dX6_copy_31 : decode cX6_copy 31 = .ok (.iaload, 1) := by decide +kernel
theorem dX6_copy_32 : decode cX6_copy 32 = .ok (.ifCond .ge 9, 3) := by decide +kernel
theorem dX6_copy_35 : decode cX6_copy 35 = .ok (.aload_n 0, 1) := by decide +kernel
theorem dX6_copy_36 : decode cX6_copy 36 = .ok (.iconst 1, 1) := by decide +kernel
theorem dX6_copy_37 : decode cX6_copy 37 = .ok (.invokevirtual 68, 3) := by decide +kernel
theorem dX6_copy_40 : decode cX6_copy 40 = .ok (.ireturn, 1) := by decide +kernel
theorem dX6_copy_41 : decode cX6_copy 41 = .ok (.aload_n 0, 1) := by decide +kernel
theorem dX6_copy_42 : decode cX6_copy 42 = .ok (.getfield 7, 3) := by decide +kernel
theorem dX6_copy_45 : decode cX6_copy 45 = .ok (.iload_n 1, 1) := by decide +kernel
theorem dX6_copy_46 : decode cX6_copy 46 = .ok (.iaload, 1) := by decide +kernel
theorem dX6_copy_47 : decode cX6_copy 47 = .ok (.aload_n 0, 1) := by decide +kernel
theorem dX6_copy_48 : decode cX6_copy 48 = .ok (.getfield 7, 3) := by decide +kernel
theorem dX6_copy_51 : decode cX6_copy 51 = .ok (.iload_n 3, 1) := by decide +kernel
theorem dX6_copy_52 : decode cX6_copy 52 = .ok (.iaload, 1) := by decide +kernel
theorem dX6_copy_53 : decode cX6_copy 53 = .ok (.if_icmp .eq 9, 3) := by decide +kernel
theorem dX6_copy_56 : decode cX6_copy 56 = .ok (.aload_n 0, 1) := by decide +kernel
theorem dX6_copy_57 : decode cX6_copy 57 = .ok (.iconst 5, 1) := by decide +kernel
theorem dX6_copy_58 : decode cX6_copy 58 = .ok (.invokevirtual 68, 3) := by decide +kernel
theorem dX6_copy_61 : decode cX6_copy 61 = .ok (.ireturn, 1) := by decide +kernel
theorem dX6_copy_62 : decode cX6_copy 62 = .ok (.iload_n 2, 1) := by decide +kernel
theorem dX6_copy_63 : decode cX6_copy 63 = .ok (.ifCond .lt 48, 3) := by decide +kernel
theorem dX6_copy_66 : decode cX6_copy 66 = .ok (.iload 4, 2) := by decide +kernel
theorem dX6_copy_68 : decode cX6_copy 68 = .ok (.ifCond .lt 43, 3) := by decide +kernel
theorem dX6_copy_71 : decode cX6_copy 71 = .ok (.iload 5, 2) := by decide +kernel
theorem dX6_copy_73 : decode cX6_copy 73 = .ok (.ifCond .lt 38, 3) := by decide +kernel
theorem dX6_copy_76 : decode cX6_copy 76 = .ok (.iload_n 2, 1) := by decide +kernel
theorem dX6_copy_77 : decode cX6_copy 77 = .ok (.i2l, 1) := by decide +kernel
theorem dX6_copy_78 : decode cX6_copy 78 = .ok (.iload 5, 2) := by decide +kernel
theorem dX6_copy_80 : decode cX6_copy 80 = .ok (.i2l, 1) := by decide +kernel
theorem dX6_copy_81 : decode cX6_copy 81 = .ok (.ladd, 1) := by decide +kernel
theorem dX6_copy_82 : decode cX6_copy 82 = .ok (.aload_n 0, 1) := by decide +kernel
theorem dX6_copy_83 : decode cX6_copy 83 = .ok (.getfield 13, 3) := by decide +kernel
theorem dX6_copy_86 : decode cX6_copy 86 = .ok (.iload_n 1, 1) := by decide +kernel
theorem dX6_copy_87 : decode cX6_copy 87 = .ok (.iaload, 1) := by decide +kernel
theorem dX6_copy_88 : decode cX6_copy 88 = .ok (.i2l, 1) := by decide +kernel
theorem dX6_copy_89 : decode cX6_copy 89 = .ok (.lcmp, 1) := by decide +kernel
theorem dX6_copy_90 : decode cX6_copy 90 = .ok (.ifCond .gt 21, 3) := by decide +kernel
theorem dX6_copy_93 : decode cX6_copy 93 = .ok (.iload 4, 2) := by decide +kernel
theorem dX6_copy_95 : decode cX6_copy 95 = .ok (.i2l, 1) := by decide +kernel
theorem dX6_copy_96 : decode cX6_copy 96 = .ok (.iload 5, 2) := by decide +kernel
theorem dX6_copy_98 : decode cX6_copy 98 = .ok (.i2l, 1) := by decide +kernel
theorem dX6_copy_99 : decode cX6_copy 99 = .ok (.ladd, 1) := by decide +kernel
theorem dX6_copy_100 : decode cX6_copy 100 = .ok (.aload_n 0, 1) := by decide +kernel
theorem dX6_copy_101 : decode cX6_copy 101 = .ok (.getfield 13, 3) := by decide +kernel
theorem dX6_copy_104 : decode cX6_copy 104 = .ok (.iload_n 3, 1) := by decide +kernel
theorem dX6_copy_105 : decode cX6_copy 105 = .ok (.iaload, 1) := by decide +kernel
theorem dX6_copy_106 : decode cX6_copy 106 = .ok (.i2l, 1) := by decide +kernel
theorem dX6_copy_107 : decode cX6_copy 107 = .ok (.lcmp, 1) := by decide +kernel
theorem dX6_copy_108 : decode cX6_copy 108 = .ok (.ifCond .le 9, 3) := by decide +kernel
theorem dX6_copy_111 : decode cX6_copy 111 = .ok (.aload_n 0, 1) := by decide +kernel
theorem dX6_copy_112 : decode cX6_copy 112 = .ok (.iconst 2, 1) := by decide +kernel
theorem dX6_copy_113 : decode cX6_copy 113 = .ok (.invokevirtual 68, 3) := by decide +kernel
theorem dX6_copy_116 : decode cX6_copy 116 = .ok (.ireturn, 1) := by decide +kernel
theorem dX6_copy_117 : decode cX6_copy 117 = .ok (.iconst 0, 1) := by decide +kernel
theorem dX6_copy_118 : decode cX6_copy 118 = .ok (.istore 6, 2) := by decide +kernel
theorem dX6_copy_120 : decode cX6_copy 120 = .ok (.iload 6, 2) := by decide +kernel
theorem dX6_copy_122 : decode cX6_copy 122 = .ok (.iload 5, 2) := by decide +kernel
theorem dX6_copy_124 : decode cX6_copy 124 = .ok (.if_icmp .ge 58, 3) := by decide +kernel
theorem dX6_copy_127 : decode cX6_copy 127 = .ok (.iload 4, 2) := by decide +kernel
theorem dX6_copy_129 : decode cX6_copy 129 = .ok (.iload_n 2, 1) := by decide +kernel
theorem dX6_copy_130 : decode cX6_copy 130 = .ok (.if_icmp .le 13, 3) := by decide +kernel
theorem dX6_copy_133 : decode cX6_copy 133 = .ok (.iload 5, 2) := by decide +kernel
theorem dX6_copy_135 : decode cX6_copy 135 = .ok (.iconst 1, 1) := by decide +kernel
theorem dX6_copy_136 : decode cX6_copy 136 = .ok (.isub, 1) := by decide +kernel
theorem dX6_copy_137 : decode cX6_copy 137 = .ok (.iload 6, 2) := by decide +kernel
theorem dX6_copy_139 : decode cX6_copy 139 = .ok (.isub, 1) := by decide +kernel
theorem dX6_copy_140 : decode cX6_copy 140 = .ok (.goto 5, 3) := by decide +kernel
theorem dX6_copy_143 : decode cX6_copy 143 = .ok (.iload 6, 2) := by decide +kernel
theorem dX6_copy_145 : decode cX6_copy 145 = .ok (.istore 7, 2) := by decide +kernel
theorem dX6_copy_147 : decode cX6_copy 147 = .ok (.aload_n 0, 1) := by decide +kernel
theorem dX6_copy_148 : decode cX6_copy 148 = .ok (.getfield 16, 3) := by decide +kernel
theorem dX6_copy_151 : decode cX6_copy 151 = .ok (.bipush 40, 2) := by decide +kernel
theorem dX6_copy_153 : decode cX6_copy 153 = .ok (.iload_n 3, 1) := by decide +kernel
theorem dX6_copy_154 : decode cX6_copy 154 = .ok (.imul, 1) := by decide +kernel
theorem dX6_copy_155 : decode cX6_copy 155 = .ok (.iload 4, 2) := by decide +kernel
theorem dX6_copy_157 : decode cX6_copy 157 = .ok (.iadd, 1) := by decide +kernel
theorem dX6_copy_158 : decode cX6_copy 158 = .ok (.iload 7, 2) := by decide +kernel
theorem dX6_copy_160 : decode cX6_copy 160 = .ok (.iadd, 1) := by decide +kernel
theorem dX6_copy_161 : decode cX6_copy 161 = .ok (.aload_n 0, 1) := by decide +kernel
theorem dX6_copy_162 : decode cX6_copy 162 = .ok (.getfield 16, 3) := by decide +kernel
theorem dX6_copy_165 : decode cX6_copy 165 = .ok (.bipush 40, 2) := by decide +kernel
theorem dX6_copy_167 : decode cX6_copy 167 = .ok (.iload_n 1, 1) := by decide +kernel
theorem dX6_copy_168 : decode cX6_copy 168 = .ok (.imul, 1) := by decide +kernel
theorem dX6_copy_169 : decode cX6_copy 169 = .ok (.iload_n 2, 1) := by decide +kernel
theorem dX6_copy_170 : decode cX6_copy 170 = .ok (.iadd, 1) := by decide +kernel
theorem dX6_copy_171 : decode cX6_copy 171 = .ok (.iload 7, 2) := by decide +kernel
theorem dX6_copy_173 : decode cX6_copy 173 = .ok (.iadd, 1) := by decide +kernel
theorem dX6_copy_174 : decode cX6_copy 174 = .ok (.iaload, 1) := by decide +kernel
theorem dX6_copy_175 : decode cX6_copy 175 = .ok (.iastore, 1) := by decide +kernel
theorem dX6_copy_176 : decode cX6_copy 176 = .ok (.iinc 6 1, 3) := by decide +kernel
theorem dX6_copy_179 : decode cX6_copy 179 = .ok (.goto (-59), 3) := by decide +kernel
theorem dX6_copy_182 : decode cX6_copy 182 = .ok (.aload_n 0, 1) := by decide +kernel
theorem dX6_copy_183 : decode cX6_copy 183 = .ok (.iload 5, 2) := by decide +kernel
theorem dX6_copy_185 : decode cX6_copy 185 = .ok (.invokevirtual 72, 3) := by decide +kernel
theorem dX6_copy_188 : decode cX6_copy 188 = .ok (.ireturn, 1) := by decide +kernel
theorem dX6_drop_0 : decode cX6_drop 0 = .ok (.iload_n 1, 1) := by decide +kernel
theorem dX6_drop_1 : decode cX6_drop 1 = .ok (.invokestatic 61, 3) := by decide +kernel
theorem dX6_drop_4 : decode cX6_drop 4 = .ok (.ifCond .ne 6, 3) := by decide +kernel
theorem dX6_drop_7 : decode cX6_drop 7 = .ok (.ldc 67, 2) := by decide +kernel
theorem dX6_drop_9 : decode cX6_drop 9 = .ok (.ireturn, 1) := by decide +kernel
theorem dX6_drop_10 : decode cX6_drop 10 = .ok (.aload_n 0, 1) := by decide +kernel
theorem dX6_drop_11 : decode cX6_drop 11 = .ok (.getfield 13, 3) := by decide +kernel
theorem dX6_drop_14 : decode cX6_drop 14 = .ok (.iload_n 1, 1) := by decide +kernel
theorem dX6_drop_15 : decode cX6_drop 15 = .ok (.iaload, 1) := by decide +kernel
theorem dX6_drop_16 : decode cX6_drop 16 = .ok (.ifCond .ge 9, 3) := by decide +kernel
theorem dX6_drop_19 : decode cX6_drop 19 = .ok (.aload_n 0, 1) := by decide +kernel
theorem dX6_drop_20 : decode cX6_drop 20 = .ok (.iconst 1, 1) := by decide +kernel
theorem dX6_drop_21 : decode cX6_drop 21 = .ok (.invokevirtual 68, 3) := by decide +kernel
theorem dX6_drop_24 : decode cX6_drop 24 = .ok (.ireturn, 1) := by decide +kernel
theorem dX6_drop_25 : decode cX6_drop 25 = .ok (.aload_n 0, 1) := by decide +kernel
theorem dX6_drop_26 : decode cX6_drop 26 = .ok (.getfield 13, 3) := by decide +kernel
theorem dX6_drop_29 : decode cX6_drop 29 = .ok (.iload_n 1, 1) := by decide +kernel
theorem dX6_drop_30 : decode cX6_drop 30 = .ok (.iaload, 1) := by decide +kernel
theorem dX6_drop_31 : decode cX6_drop 31 = .ok (.istore_n 2, 1) := by decide +kernel
theorem dX6_drop_32 : decode cX6_drop 32 = .ok (.aload_n 0, 1) := by decide +kernel
theorem dX6_drop_33 : decode cX6_drop 33 = .ok (.getfield 13, 3) := by decide +kernel
theorem dX6_drop_36 : decode cX6_drop 36 = .ok (.iload_n 1, 1) := by decide +kernel
theorem dX6_drop_37 : decode cX6_drop 37 = .ok (.iconst (-1), 1) := by decide +kernel
theorem dX6_drop_38 : decode cX6_drop 38 = .ok (.iastore, 1) := by decide +kernel
theorem dX6_drop_39 : decode cX6_drop 39 = .ok (.aload_n 0, 1) := by decide +kernel
theorem dX6_drop_40 : decode cX6_drop 40 = .ok (.iload_n 2, 1) := by decide +kernel
theorem dX6_drop_41 : decode cX6_drop 41 = .ok (.invokevirtual 72, 3) := by decide +kernel
theorem dX6_drop_44 : decode cX6_drop 44 = .ok (.ireturn, 1) := by decide +kernel
theorem dX6_feed_0 : decode cX6_feed 0 = .ok (.iload_n 1, 1) := by decide +kernel
theorem dX6_feed_1 : decode cX6_feed 1 = .ok (.i2l, 1) := by decide +kernel
theorem dX6_feed_2 : decode cX6_feed 2 = .ok (.lconst 0, 1) := by decide +kernel
theorem dX6_feed_3 : decode cX6_feed 3 = .ok (.ldc2_w 75, 3) := by decide +kernel
theorem dX6_feed_6 : decode cX6_feed 6 = .ok (.invokestatic 57, 3) := by decide +kernel
theorem dX6_feed_9 : decode cX6_feed 9 = .ok (.ifCond .ne 6, 3) := by decide +kernel
theorem dX6_feed_12 : decode cX6_feed 12 = .ok (.ldc 67, 2) := by decide +kernel
theorem dX6_feed_14 : decode cX6_feed 14 = .ok (.ireturn, 1) := by decide +kernel
theorem dX6_feed_15 : decode cX6_feed 15 = .ok (.aload_n 0, 1) := by decide +kernel
theorem dX6_feed_16 : decode cX6_feed 16 = .ok (.getfield 77, 3) := by decide +kernel
theorem dX6_feed_19 : decode cX6_feed 19 = .ok (.bipush 120, 2) := by decide +kernel
theorem dX6_feed_21 : decode cX6_feed 21 = .ok (.if_icmp .ne 6, 3) := by decide +kernel
theorem dX6_feed_24 : decode cX6_feed 24 = .ok (.ldc 80, 2) := by decide +kernel
theorem dX6_feed_26 : decode cX6_feed 26 = .ok (.ireturn, 1) := by decide +kernel
theorem dX6_feed_27 : decode cX6_feed 27 = .ok (.aload_n 0, 1) := by decide +kernel
theorem dX6_feed_28 : decode cX6_feed 28 = .ok (.getfield 38, 3) := by decide +kernel
theorem dX6_feed_31 : decode cX6_feed 31 = .ok (.aload_n 0, 1) := by decide +kernel
theorem dX6_feed_32 : decode cX6_feed 32 = .ok (.getfield 77, 3) := by decide +kernel
theorem dX6_feed_35 : decode cX6_feed 35 = .ok (.iload_n 1, 1) := by decide +kernel
theorem dX6_feed_36 : decode cX6_feed 36 = .ok (.iastore, 1) := by decide +kernel
theorem dX6_feed_37 : decode cX6_feed 37 = .ok (.aload_n 0, 1) := by decide +kernel
theorem dX6_feed_38 : decode cX6_feed 38 = .ok (.dup, 1) := by decide +kernel
theorem dX6_feed_39 : decode cX6_feed 39 = .ok (.getfield 77, 3) := by decide +kernel
theorem dX6_feed_42 : decode cX6_feed 42 = .ok (.iconst 1, 1) := by decide +kernel
theorem dX6_feed_43 : decode cX6_feed 43 = .ok (.iadd, 1) := by decide +kernel
theorem dX6_feed_44 : decode cX6_feed 44 = .ok (.putfield 77, 3) := by decide +kernel
theorem dX6_feed_47 : decode cX6_feed 47 = .ok (.aload_n 0, 1) := by decide +kernel
theorem dX6_feed_48 : decode cX6_feed 48 = .ok (.getfield 77, 3) := by decide +kernel
theorem dX6_feed_51 : decode cX6_feed 51 = .ok (.ireturn, 1) := by decide +kernel
theorem dX6_here_0 : decode cX6_here 0 = .ok (.aload_n 0, 1) := by decide +kernel
theorem dX6_here_1 : decode cX6_here 1 = .ok (.getfield 81, 3) := by decide +kernel
theorem dX6_here_4 : decode cX6_here 4 = .ok (.aload_n 0, 1) := by decide +kernel
theorem dX6_here_5 : decode cX6_here 5 = .ok (.getfield 77, 3) := by decide +kernel
theorem dX6_here_8 : decode cX6_here 8 = .ok (.if_icmp .ge 15, 3) := by decide +kernel
theorem dX6_here_11 : decode cX6_here 11 = .ok (.aload_n 0, 1) := by decide +kernel
theorem dX6_here_12 : decode cX6_here 12 = .ok (.getfield 38, 3) := by decide +kernel
theorem dX6_here_15 : decode cX6_here 15 = .ok (.aload_n 0, 1) := by decide +kernel
theorem dX6_here_16 : decode cX6_here 16 = .ok (.getfield 81, 3) := by decide +kernel
theorem dX6_here_19 : decode cX6_here 19 = .ok (.iaload, 1) := by decide +kernel
theorem dX6_here_20 : decode cX6_here 20 = .ok (.goto 4, 3) := by decide +kernel
theorem dX6_here_23 : decode cX6_here 23 = .ok (.iconst (-1), 1) := by decide +kernel
theorem dX6_here_24 : decode cX6_here 24 = .ok (.ireturn, 1) := by decide +kernel
theorem dX6_step_0 : decode cX6_step 0 = .ok (.aload_n 0, 1) := by decide +kernel
theorem dX6_step_1 : decode cX6_step 1 = .ok (.aload_n 0, 1) := by decide +kernel
theorem dX6_step_2 : decode cX6_step 2 = .ok (.getfield 81, 3) := by decide +kernel
theorem dX6_step_5 : decode cX6_step 5 = .ok (.putfield 84, 3) := by decide +kernel
theorem dX6_step_8 : decode cX6_step 8 = .ok (.aload_n 0, 1) := by decide +kernel
theorem dX6_step_9 : decode cX6_step 9 = .ok (.aload_n 0, 1) := by decide +kernel
theorem dX6_step_10 : decode cX6_step 10 = .ok (.invokevirtual 87, 3) := by decide +kernel
theorem dX6_step_13 : decode cX6_step 13 = .ok (.putfield 91, 3) := by decide +kernel
theorem dX6_step_16 : decode cX6_step 16 = .ok (.aload_n 0, 1) := by decide +kernel
theorem dX6_step_17 : decode cX6_step 17 = .ok (.aload_n 0, 1) := by decide +kernel
theorem dX6_step_18 : decode cX6_step 18 = .ok (.getfield 91, 3) := by decide +kernel
theorem dX6_step_21 : decode cX6_step 21 = .ok (.ifCond .ge 7, 3) := by decide +kernel
theorem dX6_step_24 : decode cX6_step 24 = .ok (.iconst 0, 1) := by decide +kernel
theorem dX6_step_25 : decode cX6_step 25 = .ok (.goto 68, 3) := by decide +kernel
theorem dX6_step_28 : decode cX6_step 28 = .ok (.aload_n 0, 1) := by decide +kernel
theorem dX6_step_29 : decode cX6_step 29 = .ok (.getfield 91, 3) := by decide +kernel
theorem dX6_step_32 : decode cX6_step 32 = .ok (.i2l, 1) := by decide +kernel
theorem dX6_step_33 : decode cX6_step 33 = .ok (.ldc2_w 94, 3) := by decide +kernel
theorem dX6_step_36 : decode cX6_step 36 = .ok (.ldc2_w 96, 3) := by decide +kernel
theorem dX6_step_39 : decode cX6_step 39 = .ok (.invokestatic 57, 3) := by decide +kernel
theorem dX6_step_42 : decode cX6_step 42 = .ok (.ifCond .eq 7, 3) := by decide +kernel
theorem dX6_step_45 : decode cX6_step 45 = .ok (.iconst 1, 1) := by decide +kernel
theorem dX6_step_46 : decode cX6_step 46 = .ok (.goto 47, 3) := by decide +kernel
theorem dX6_step_49 : decode cX6_step 49 = .ok (.aload_n 0, 1) := by decide +kernel
theorem dX6_step_50 : decode cX6_step 50 = .ok (.getfield 91, 3) := by decide +kernel
theorem dX6_step_53 : decode cX6_step 53 = .ok (.i2l, 1) := by decide +kernel
theorem dX6_step_54 : decode cX6_step 54 = .ok (.ldc2_w 98, 3) := by decide +kernel
theorem dX6_step_57 : decode cX6_step 57 = .ok (.ldc2_w 100, 3) := by decide +kernel
theorem dX6_step_60 : decode cX6_step 60 = .ok (.invokestatic 57, 3) := by decide +kernel
theorem dX6_step_63 : decode cX6_step 63 = .ok (.ifCond .eq 7, 3) := by decide +kernel
theorem dX6_step_66 : decode cX6_step 66 = .ok (.iconst 2, 1) := by decide +kernel
theorem dX6_step_67 : decode cX6_step 67 = .ok (.goto 26, 3) := by decide +kernel
theorem dX6_step_70 : decode cX6_step 70 = .ok (.aload_n 0, 1) := by decide +kernel
theorem dX6_step_71 : decode cX6_step 71 = .ok (.getfield 91, 3) := by decide +kernel
theorem dX6_step_74 : decode cX6_step 74 = .ok (.bipush 44, 2) := by decide +kernel
theorem dX6_step_76 : decode cX6_step 76 = .ok (.if_icmp .eq 12, 3) := by decide +kernel
theorem dX6_step_79 : decode cX6_step 79 = .ok (.aload_n 0, 1) := by decide +kernel
theorem dX6_step_80 : decode cX6_step 80 = .ok (.getfield 91, 3) := by decide +kernel
theorem dX6_step_83 : decode cX6_step 83 = .ok (.bipush 59, 2) := by decide +kernel
theorem dX6_step_85 : decode cX6_step 85 = .ok (.if_icmp .ne 7, 3) := by decide +kernel
theorem dX6_step_88 : decode cX6_step 88 = .ok (.iconst 3, 1) := by decide +kernel
theorem dX6_step_89 : decode cX6_step 89 = .ok (.goto 4, 3) := by decide +kernel
theorem dX6_step_92 : decode cX6_step 92 = .ok (.iconst 4, 1) := by decide +kernel
theorem dX6_step_93 : decode cX6_step 93 = .ok (.putfield 102, 3) := by decide +kernel
theorem dX6_step_96 : decode cX6_step 96 = .ok (.aload_n 0, 1) := by decide +kernel
theorem dX6_step_97 : decode cX6_step 97 = .ok (.getfield 102, 3) := by decide +kernel
theorem dX6_step_100 : decode cX6_step 100 = .ok (.iconst 2, 1) := by decide +kernel
theorem dX6_step_101 : decode cX6_step 101 = .ok (.if_icmp .eq 25, 3) := by decide +kernel
theorem dX6_step_104 : decode cX6_step 104 = .ok (.aload_n 0, 1) := by decide +kernel
theorem dX6_step_105 : decode cX6_step 105 = .ok (.dup, 1) := by decide +kernel
theorem dX6_step_106 : decode cX6_step 106 = .ok (.getfield 81, 3) := by decide +kernel
theorem dX6_step_109 : decode cX6_step 109 = .ok (.aload_n 0, 1) := by decide +kernel
theorem dX6_step_110 : decode cX6_step 110 = .ok (.getfield 102, 3) := by decide +kernel
theorem dX6_step_113 : decode cX6_step 113 = .ok (.ifCond .ne 7, 3) := by decide +kernel
theorem dX6_step_116 : decode cX6_step 116 = .ok (.iconst 0, 1) := by decide +kernel
theorem dX6_step_117 : decode cX6_step 117 = .ok (.goto 4, 3) := by decide +kernel
theorem dX6_step_120 : decode cX6_step 120 = .ok (.iconst 1, 1) := by decide +kernel
theorem dX6_step_121 : decode cX6_step 121 = .ok (.iadd, 1) := by decide +kernel
theorem dX6_step_122 : decode cX6_step 122 = .ok (.putfield 81, 3) := by decide +kernel
theorem dX6_step_125 : decode cX6_step 125 = .ok (.return_, 1) := by decide +kernel
theorem dX6_step_126 : decode cX6_step 126 = .ok (.aload_n 0, 1) := by decide +kernel
theorem dX6_step_127 : decode cX6_step 127 = .ok (.iconst 0, 1) := by decide +kernel
theorem dX6_step_128 : decode cX6_step 128 = .ok (.putfield 91, 3) := by decide +kernel
theorem dX6_step_131 : decode cX6_step 131 = .ok (.aload_n 0, 1) := by decide +kernel
theorem dX6_step_132 : decode cX6_step 132 = .ok (.invokevirtual 87, 3) := by decide +kernel
theorem dX6_step_135 : decode cX6_step 135 = .ok (.i2l, 1) := by decide +kernel
theorem dX6_step_136 : decode cX6_step 136 = .ok (.ldc2_w 98, 3) := by decide +kernel
theorem dX6_step_139 : decode cX6_step 139 = .ok (.ldc2_w 100, 3) := by decide +kernel
theorem dX6_step_142 : decode cX6_step 142 = .ok (.invokestatic 57, 3) := by decide +kernel
theorem dX6_step_145 : decode cX6_step 145 = .ok (.ifCond .eq 55, 3) := by decide +kernel
theorem dX6_step_148 : decode cX6_step 148 = .ok (.aload_n 0, 1) := by decide +kernel
theorem dX6_step_149 : decode cX6_step 149 = .ok (.aload_n 0, 1) := by decide +kernel
theorem dX6_step_150 : decode cX6_step 150 = .ok (.getfield 81, 3) := by decide +kernel
theorem dX6_step_153 : decode cX6_step 153 = .ok (.aload_n 0, 1) := by decide +kernel
theorem dX6_step_154 : decode cX6_step 154 = .ok (.getfield 84, 3) := by decide +kernel
theorem dX6_step_157 : decode cX6_step 157 = .ok (.isub, 1) := by decide +kernel
theorem dX6_step_158 : decode cX6_step 158 = .ok (.iconst 2, 1) := by decide +kernel
theorem dX6_step_159 : decode cX6_step 159 = .ok (.if_icmp .ge 21, 3) := by decide +kernel
theorem dX6_step_162 : decode cX6_step 162 = .ok (.bipush 10, 2) := by decide +kernel
theorem dX6_step_164 : decode cX6_step 164 = .ok (.aload_n 0, 1) := by decide +kernel
theorem dX6_step_165 : decode cX6_step 165 = .ok (.getfield 91, 3) := by decide +kernel
theorem dX6_step_168 : decode cX6_step 168 = .ok (.imul, 1) := by decide +kernel
theorem dX6_step_169 : decode cX6_step 169 = .ok (.aload_n 0, 1) := by decide +kernel
theorem dX6_step_170 : decode cX6_step 170 = .ok (.invokevirtual 87, 3) := by decide +kernel
theorem dX6_step_173 : decode cX6_step 173 = .ok (.iadd, 1) := by decide +kernel
theorem dX6_step_174 : decode cX6_step 174 = .ok (.bipush 48, 2) := by decide +kernel
theorem dX6_step_176 : decode cX6_step 176 = .ok (.isub, 1) := by decide +kernel
theorem dX6_step_177 : decode cX6_step 177 = .ok (.goto 7, 3) := by decide +kernel
theorem dX6_step_180 : decode cX6_step 180 = .ok (.aload_n 0, 1) := by decide +kernel
theorem dX6_step_181 : decode cX6_step 181 = .ok (.getfield 91, 3) := by decide +kernel
theorem dX6_step_184 : decode cX6_step 184 = .ok (.putfield 91, 3) := by decide +kernel
theorem dX6_step_187 : decode cX6_step 187 = .ok (.aload_n 0, 1) := by decide +kernel
theorem dX6_step_188 : decode cX6_step 188 = .ok (.dup, 1) := by decide +kernel
theorem dX6_step_189 : decode cX6_step 189 = .ok (.getfield 81, 3) := by decide +kernel
theorem dX6_step_192 : decode cX6_step 192 = .ok (.iconst 1, 1) := by decide +kernel
theorem dX6_step_193 : decode cX6_step 193 = .ok (.iadd, 1) := by decide +kernel
theorem dX6_step_194 : decode cX6_step 194 = .ok (.putfield 81, 3) := by decide +kernel
theorem dX6_step_197 : decode cX6_step 197 = .ok (.goto (-66), 3) := by decide +kernel
theorem dX6_step_200 : decode cX6_step 200 = .ok (.aload_n 0, 1) := by decide +kernel
theorem dX6_step_201 : decode cX6_step 201 = .ok (.aload_n 0, 1) := by decide +kernel
theorem dX6_step_202 : decode cX6_step 202 = .ok (.getfield 81, 3) := by decide +kernel
theorem dX6_step_205 : decode cX6_step 205 = .ok (.aload_n 0, 1) := by decide +kernel
theorem dX6_step_206 : decode cX6_step 206 = .ok (.getfield 84, 3) := by decide +kernel
theorem dX6_step_209 : decode cX6_step 209 = .ok (.isub, 1) := by decide +kernel
theorem dX6_step_210 : decode cX6_step 210 = .ok (.iconst 2, 1) := by decide +kernel
theorem dX6_step_211 : decode cX6_step 211 = .ok (.if_icmp .le 7, 3) := by decide +kernel
theorem dX6_step_214 : decode cX6_step 214 = .ok (.iconst 4, 1) := by decide +kernel
theorem dX6_step_215 : decode cX6_step 215 = .ok (.goto 4, 3) := by decide +kernel
theorem dX6_step_218 : decode cX6_step 218 = .ok (.iconst 2, 1) := by decide +kernel
theorem dX6_step_219 : decode cX6_step 219 = .ok (.putfield 102, 3) := by decide +kernel
theorem dX6_step_222 : decode cX6_step 222 = .ok (.return_, 1) := by decide +kernel
theorem dX6_fails_0 : decode cX6_fails 0 = .ok (.aload_n 0, 1) := by decide +kernel
theorem dX6_fails_1 : decode cX6_fails 1 = .ok (.iload_n 1, 1) := by decide +kernel
theorem dX6_fails_2 : decode cX6_fails 2 = .ok (.putfield 105, 3) := by decide +kernel
theorem dX6_fails_5 : decode cX6_fails 5 = .ok (.iconst 0, 1) := by decide +kernel
theorem dX6_fails_6 : decode cX6_fails 6 = .ok (.ireturn, 1) := by decide +kernel
theorem dX6_number_0 : decode cX6_number 0 = .ok (.aload_n 0, 1) := by decide +kernel
theorem dX6_number_1 : decode cX6_number 1 = .ok (.invokevirtual 108, 3) := by decide +kernel
theorem dX6_number_4 : decode cX6_number 4 = .ok (.aload_n 0, 1) := by decide +kernel
theorem dX6_number_5 : decode cX6_number 5 = .ok (.getfield 102, 3) := by decide +kernel
theorem dX6_number_8 : decode cX6_number 8 = .ok (.iconst 2, 1) := by decide +kernel
theorem dX6_number_9 : decode cX6_number 9 = .ok (.if_icmp .eq 9, 3) := by decide +kernel
theorem dX6_number_12 : decode cX6_number 12 = .ok (.aload_n 0, 1) := by decide +kernel
theorem dX6_number_13 : decode cX6_number 13 = .ok (.iconst 1, 1) := by decide +kernel
theorem dX6_number_14 : decode cX6_number 14 = .ok (.invokevirtual 111, 3) := by decide +kernel
theorem dX6_number_17 : decode cX6_number 17 = .ok (.ireturn, 1) := by decide +kernel
theorem dX6_number_18 : decode cX6_number 18 = .ok (.aload_n 0, 1) := by decide +kernel
theorem dX6_number_19 : decode cX6_number 19 = .ok (.getfield 91, 3) := by decide +kernel
theorem dX6_number_22 : decode cX6_number 22 = .ok (.i2l, 1) := by decide +kernel
theorem dX6_number_23 : decode cX6_number 23 = .ok (.iload_n 2, 1) := by decide +kernel
theorem dX6_number_24 : decode cX6_number 24 = .ok (.i2l, 1) := by decide +kernel
theorem dX6_number_25 : decode cX6_number 25 = .ok (.iload_n 3, 1) := by decide +kernel
theorem dX6_number_26 : decode cX6_number 26 = .ok (.i2l, 1) := by decide +kernel
theorem dX6_number_27 : decode cX6_number 27 = .ok (.invokestatic 57, 3) := by decide +kernel
theorem dX6_number_30 : decode cX6_number 30 = .ok (.ifCond .ne 9, 3) := by decide +kernel
theorem dX6_number_33 : decode cX6_number 33 = .ok (.aload_n 0, 1) := by decide +kernel
theorem dX6_number_34 : decode cX6_number 34 = .ok (.iconst 2, 1) := by decide +kernel
theorem dX6_number_35 : decode cX6_number 35 = .ok (.invokevirtual 111, 3) := by decide +kernel
theorem dX6_number_38 : decode cX6_number 38 = .ok (.ireturn, 1) := by decide +kernel
theorem dX6_number_39 : decode cX6_number 39 = .ok (.aload_n 0, 1) := by decide +kernel
theorem dX6_number_40 : decode cX6_number 40 = .ok (.getfield 22, 3) := by decide +kernel
theorem dX6_number_43 : decode cX6_number 43 = .ok (.iload_n 1, 1) := by decide +kernel
theorem dX6_number_44 : decode cX6_number 44 = .ok (.aload_n 0, 1) := by decide +kernel
theorem dX6_number_45 : decode cX6_number 45 = .ok (.getfield 91, 3) := by decide +kernel
theorem dX6_number_48 : decode cX6_number 48 = .ok (.iastore, 1) := by decide +kernel
theorem dX6_number_49 : decode cX6_number 49 = .ok (.aload_n 0, 1) := by decide +kernel
theorem dX6_number_50 : decode cX6_number 50 = .ok (.invokevirtual 108, 3) := by decide +kernel
theorem dX6_number_53 : decode cX6_number 53 = .ok (.aload_n 0, 1) := by decide +kernel
theorem dX6_number_54 : decode cX6_number 54 = .ok (.getfield 102, 3) := by decide +kernel
theorem dX6_number_57 : decode cX6_number 57 = .ok (.iconst 3, 1) := by decide +kernel
theorem dX6_number_58 : decode cX6_number 58 = .ok (.if_icmp .ne 12, 3) := by decide +kernel
theorem dX6_number_61 : decode cX6_number 61 = .ok (.aload_n 0, 1) := by decide +kernel
theorem dX6_number_62 : decode cX6_number 62 = .ok (.getfield 91, 3) := by decide +kernel
theorem dX6_number_65 : decode cX6_number 65 = .ok (.iload 4, 2) := by decide +kernel
theorem dX6_number_67 : decode cX6_number 67 = .ok (.if_icmp .eq 11, 3) := by decide +kernel
theorem dX6_number_70 : decode cX6_number 70 = .ok (.aload_n 0, 1) := by decide +kernel
theorem dX6_number_71 : decode cX6_number 71 = .ok (.iconst 1, 1) := by decide +kernel
theorem dX6_number_72 : decode cX6_number 72 = .ok (.invokevirtual 111, 3) := by decide +kernel
theorem dX6_number_75 : decode cX6_number 75 = .ok (.ifCond .eq 7, 3) := by decide +kernel
theorem dX6_number_78 : decode cX6_number 78 = .ok (.iconst 1, 1) := by decide +kernel
theorem dX6_number_79 : decode cX6_number 79 = .ok (.goto 4, 3) := by decide +kernel
theorem dX6_number_82 : decode cX6_number 82 = .ok (.iconst 0, 1) := by decide +kernel
theorem dX6_number_83 : decode cX6_number 83 = .ok (.ireturn, 1) := by decide +kernel
theorem dX6_sortOf_0 : decode cX6_sortOf 0 = .ok (.iload_n 0, 1) := by decide +kernel
theorem dX6_sortOf_1 : decode cX6_sortOf 1 = .ok (.bipush 99, 2) := by decide +kernel
theorem dX6_sortOf_3 : decode cX6_sortOf 3 = .ok (.if_icmp .ne 7, 3) := by decide +kernel
theorem dX6_sortOf_6 : decode cX6_sortOf 6 = .ok (.iconst 1, 1) := by decide +kernel
theorem dX6_sortOf_7 : decode cX6_sortOf 7 = .ok (.goto 44, 3) := by decide +kernel
theorem dX6_sortOf_10 : decode cX6_sortOf 10 = .ok (.iload_n 0, 1) := by decide +kernel
theorem dX6_sortOf_11 : decode cX6_sortOf 11 = .ok (.bipush 115, 2) := by decide +kernel
theorem dX6_sortOf_13 : decode cX6_sortOf 13 = .ok (.if_icmp .ne 7, 3) := by decide +kernel
theorem dX6_sortOf_16 : decode cX6_sortOf 16 = .ok (.iconst 2, 1) := by decide +kernel
theorem dX6_sortOf_17 : decode cX6_sortOf 17 = .ok (.goto 34, 3) := by decide +kernel
theorem dX6_sortOf_20 : decode cX6_sortOf 20 = .ok (.iload_n 0, 1) := by decide +kernel
theorem dX6_sortOf_21 : decode cX6_sortOf 21 = .ok (.bipush 118, 2) := by decide +kernel
theorem dX6_sortOf_23 : decode cX6_sortOf 23 = .ok (.if_icmp .ne 7, 3) := by decide +kernel
theorem dX6_sortOf_26 : decode cX6_sortOf 26 = .ok (.iconst 3, 1) := by decide +kernel
theorem dX6_sortOf_27 : decode cX6_sortOf 27 = .ok (.goto 24, 3) := by decide +kernel
theorem dX6_sortOf_30 : decode cX6_sortOf 30 = .ok (.iload_n 0, 1) := by decide +kernel
theorem dX6_sortOf_31 : decode cX6_sortOf 31 = .ok (.bipush 114, 2) := by decide +kernel
theorem dX6_sortOf_33 : decode cX6_sortOf 33 = .ok (.if_icmp .ne 7, 3) := by decide +kernel
theorem dX6_sortOf_36 : decode cX6_sortOf 36 = .ok (.iconst 4, 1) := by decide +kernel
theorem dX6_sortOf_37 : decode cX6_sortOf 37 = .ok (.goto 14, 3) := by decide +kernel
theorem dX6_sortOf_40 : decode cX6_sortOf 40 = .ok (.iload_n 0, 1) := by decide +kernel
theorem dX6_sortOf_41 : decode cX6_sortOf 41 = .ok (.bipush 111, 2) := by decide +kernel
theorem dX6_sortOf_43 : decode cX6_sortOf 43 = .ok (.if_icmp .ne 7, 3) := by decide +kernel
theorem dX6_sortOf_46 : decode cX6_sortOf 46 = .ok (.iconst 5, 1) := by decide +kernel
theorem dX6_sortOf_47 : decode cX6_sortOf 47 = .ok (.goto 4, 3) := by decide +kernel
theorem dX6_sortOf_50 : decode cX6_sortOf 50 = .ok (.iconst 0, 1) := by decide +kernel
theorem dX6_sortOf_51 : decode cX6_sortOf 51 = .ok (.ireturn, 1) := by decide +kernel
theorem dX6_readsHammock_0 : decode cX6_readsHammock 0 = .ok (.aload_n 0, 1) := by decide +kernel
theorem dX6_readsHammock_1 : decode cX6_readsHammock 1 = .ok (.getfield 22, 3) := by decide +kernel
theorem dX6_readsHammock_4 : decode cX6_readsHammock 4 = .ok (.iconst 0, 1) := by decide +kernel
theorem dX6_readsHammock_5 : decode cX6_readsHammock 5 = .ok (.iaload, 1) := by decide +kernel
theorem dX6_readsHammock_6 : decode cX6_readsHammock 6 = .ok (.istore_n 1, 1) := by decide +kernel
theorem dX6_readsHammock_7 : decode cX6_readsHammock 7 = .ok (.aload_n 0, 1) := by decide +kernel
theorem dX6_readsHammock_8 : decode cX6_readsHammock 8 = .ok (.getfield 102, 3) := by decide +kernel
theorem dX6_readsHammock_11 : decode cX6_readsHammock 11 = .ok (.iconst 1, 1) := by decide +kernel
theorem dX6_readsHammock_12 : decode cX6_readsHammock 12 = .ok (.if_icmp .ne 13, 3) := by decide +kernel
theorem dX6_readsHammock_15 : decode cX6_readsHammock 15 = .ok (.aload_n 0, 1) := by decide +kernel
theorem dX6_readsHammock_16 : decode cX6_readsHammock 16 = .ok (.getfield 91, 3) := by decide +kernel
theorem dX6_readsHammock_19 : decode cX6_readsHammock 19 = .ok (.invokestatic 114, 3) := by decide +kernel
theorem dX6_readsHammock_22 : decode cX6_readsHammock 22 = .ok (.goto 4, 3) := by decide +kernel
theorem dX6_readsHammock_25 : decode cX6_readsHammock 25 = .ok (.iconst 0, 1) := by decide +kernel
theorem dX6_readsHammock_26 : decode cX6_readsHammock 26 = .ok (.istore_n 2, 1) := by decide +kernel
theorem dX6_readsHammock_27 : decode cX6_readsHammock 27 = .ok (.iload_n 2, 1) := by decide +kernel
theorem dX6_readsHammock_28 : decode cX6_readsHammock 28 = .ok (.ifCond .ne 9, 3) := by decide +kernel
theorem dX6_readsHammock_31 : decode cX6_readsHammock 31 = .ok (.aload_n 0, 1) := by decide +kernel
theorem dX6_readsHammock_32 : decode cX6_readsHammock 32 = .ok (.iconst 1, 1) := by decide +kernel
theorem dX6_readsHammock_33 : decode cX6_readsHammock 33 = .ok (.invokevirtual 111, 3) := by decide +kernel
theorem dX6_readsHammock_36 : decode cX6_readsHammock 36 = .ok (.ireturn, 1) := by decide +kernel
theorem dX6_readsHammock_37 : decode cX6_readsHammock 37 = .ok (.iload_n 1, 1) := by decide +kernel
theorem dX6_readsHammock_38 : decode cX6_readsHammock 38 = .ok (.bipush 6, 2) := by decide +kernel
theorem dX6_readsHammock_40 : decode cX6_readsHammock 40 = .ok (.if_icmp .ne 9, 3) := by decide +kernel
theorem dX6_readsHammock_43 : decode cX6_readsHammock 43 = .ok (.aload_n 0, 1) := by decide +kernel
theorem dX6_readsHammock_44 : decode cX6_readsHammock 44 = .ok (.iconst 3, 1) := by decide +kernel
theorem dX6_readsHammock_45 : decode cX6_readsHammock 45 = .ok (.invokevirtual 111, 3) := by decide +kernel
theorem dX6_readsHammock_48 : decode cX6_readsHammock 48 = .ok (.ireturn, 1) := by decide +kernel
theorem dX6_readsHammock_49 : decode cX6_readsHammock 49 = .ok (.aload_n 0, 1) := by decide +kernel
theorem dX6_readsHammock_50 : decode cX6_readsHammock 50 = .ok (.getfield 22, 3) := by decide +kernel
theorem dX6_readsHammock_53 : decode cX6_readsHammock 53 = .ok (.iconst 4, 1) := by decide +kernel
theorem dX6_readsHammock_54 : decode cX6_readsHammock 54 = .ok (.iload_n 1, 1) := by decide +kernel
theorem dX6_readsHammock_55 : decode cX6_readsHammock 55 = .ok (.iadd, 1) := by decide +kernel
theorem dX6_readsHammock_56 : decode cX6_readsHammock 56 = .ok (.iload_n 2, 1) := by decide +kernel
theorem dX6_readsHammock_57 : decode cX6_readsHammock 57 = .ok (.iastore, 1) := by decide +kernel
theorem dX6_readsHammock_58 : decode cX6_readsHammock 58 = .ok (.aload_n 0, 1) := by decide +kernel
theorem dX6_readsHammock_59 : decode cX6_readsHammock 59 = .ok (.getfield 22, 3) := by decide +kernel
theorem dX6_readsHammock_62 : decode cX6_readsHammock 62 = .ok (.iconst 0, 1) := by decide +kernel
theorem dX6_readsHammock_63 : decode cX6_readsHammock 63 = .ok (.dup2, 1) := by decide +kernel
theorem dX6_readsHammock_64 : decode cX6_readsHammock 64 = .ok (.iaload, 1) := by decide +kernel
theorem dX6_readsHammock_65 : decode cX6_readsHammock 65 = .ok (.iconst 1, 1) := by decide +kernel
theorem dX6_readsHammock_66 : decode cX6_readsHammock 66 = .ok (.iadd, 1) := by decide +kernel
theorem dX6_readsHammock_67 : decode cX6_readsHammock 67 = .ok (.iastore, 1) := by decide +kernel
theorem dX6_readsHammock_68 : decode cX6_readsHammock 68 = .ok (.aload_n 0, 1) := by decide +kernel
theorem dX6_readsHammock_69 : decode cX6_readsHammock 69 = .ok (.bipush 10, 2) := by decide +kernel
theorem dX6_readsHammock_71 : decode cX6_readsHammock 71 = .ok (.iload_n 1, 1) := by decide +kernel
theorem dX6_readsHammock_72 : decode cX6_readsHammock 72 = .ok (.iadd, 1) := by decide +kernel
theorem dX6_readsHammock_73 : decode cX6_readsHammock 73 = .ok (.iconst 0, 1) := by decide +kernel
theorem dX6_readsHammock_74 : decode cX6_readsHammock 74 = .ok (.bipush 11, 2) := by decide +kernel
theorem dX6_readsHammock_76 : decode cX6_readsHammock 76 = .ok (.bipush 44, 2) := by decide +kernel
theorem dX6_readsHammock_78 : decode cX6_readsHammock 78 = .ok (.invokevirtual 117, 3) := by decide +kernel
theorem dX6_readsHammock_81 : decode cX6_readsHammock 81 = .ok (.ifCond .eq 64, 3) := by decide +kernel
theorem dX6_readsHammock_84 : decode cX6_readsHammock 84 = .ok (.aload_n 0, 1) := by decide +kernel
theorem dX6_readsHammock_85 : decode cX6_readsHammock 85 = .ok (.bipush 16, 2) := by decide +kernel
theorem dX6_readsHammock_87 : decode cX6_readsHammock 87 = .ok (.iload_n 1, 1) := by decide +kernel
theorem dX6_readsHammock_88 : decode cX6_readsHammock 88 = .ok (.iadd, 1) := by decide +kernel
theorem dX6_readsHammock_89 : decode cX6_readsHammock 89 = .ok (.aload_n 0, 1) := by decide +kernel
theorem dX6_readsHammock_90 : decode cX6_readsHammock 90 = .ok (.getfield 22, 3) := by decide +kernel
theorem dX6_readsHammock_93 : decode cX6_readsHammock 93 = .ok (.bipush 10, 2) := by decide +kernel
theorem dX6_readsHammock_95 : decode cX6_readsHammock 95 = .ok (.iload_n 1, 1) := by decide +kernel
theorem dX6_readsHammock_96 : decode cX6_readsHammock 96 = .ok (.iadd, 1) := by decide +kernel
theorem dX6_readsHammock_97 : decode cX6_readsHammock 97 = .ok (.iaload, 1) := by decide +kernel
theorem dX6_readsHammock_98 : decode cX6_readsHammock 98 = .ok (.iconst 1, 1) := by decide +kernel
theorem dX6_readsHammock_99 : decode cX6_readsHammock 99 = .ok (.iadd, 1) := by decide +kernel
theorem dX6_readsHammock_100 : decode cX6_readsHammock 100 = .ok (.bipush 11, 2) := by decide +kernel
theorem dX6_readsHammock_102 : decode cX6_readsHammock 102 = .ok (.bipush 44, 2) := by decide +kernel
theorem dX6_readsHammock_104 : decode cX6_readsHammock 104 = .ok (.invokevirtual 117, 3) := by decide +kernel
theorem dX6_readsHammock_107 : decode cX6_readsHammock 107 = .ok (.ifCond .eq 38, 3) := by decide +kernel
theorem dX6_readsHammock_110 : decode cX6_readsHammock 110 = .ok (.aload_n 0, 1) := by decide +kernel
theorem dX6_readsHammock_111 : decode cX6_readsHammock 111 = .ok (.bipush 22, 2) := by decide +kernel
theorem dX6_readsHammock_113 : decode cX6_readsHammock 113 = .ok (.iload_n 1, 1) := by decide +kernel
theorem dX6_readsHammock_114 : decode cX6_readsHammock 114 = .ok (.iadd, 1) := by decide +kernel
theorem dX6_readsHammock_115 : decode cX6_readsHammock 115 = .ok (.iconst 1, 1) := by decide +kernel
theorem dX6_readsHammock_116 : decode cX6_readsHammock 116 = .ok (.bipush 20, 2) := by decide +kernel
theorem dX6_readsHammock_118 : decode cX6_readsHammock 118 = .ok (.bipush 44, 2) := by decide +kernel
theorem dX6_readsHammock_120 : decode cX6_readsHammock 120 = .ok (.invokevirtual 117, 3) := by decide +kernel
theorem dX6_readsHammock_123 : decode cX6_readsHammock 123 = .ok (.ifCond .eq 22, 3) := by decide +kernel
theorem dX6_readsHammock_126 : decode cX6_readsHammock 126 = .ok (.aload_n 0, 1) := by decide +kernel
theorem dX6_readsHammock_127 : decode cX6_readsHammock 127 = .ok (.bipush 28, 2) := by decide +kernel
theorem dX6_readsHammock_129 : decode cX6_readsHammock 129 = .ok (.iload_n 1, 1) := by decide +kernel
theorem dX6_readsHammock_130 : decode cX6_readsHammock 130 = .ok (.iadd, 1) := by decide +kernel
theorem dX6_readsHammock_131 : decode cX6_readsHammock 131 = .ok (.iconst 0, 1) := by decide +kernel
theorem dX6_readsHammock_132 : decode cX6_readsHammock 132 = .ok (.iconst 5, 1) := by decide +kernel
theorem dX6_readsHammock_133 : decode cX6_readsHammock 133 = .ok (.bipush 59, 2) := by decide +kernel
theorem dX6_readsHammock_135 : decode cX6_readsHammock 135 = .ok (.invokevirtual 117, 3) := by decide +kernel
theorem dX6_readsHammock_138 : decode cX6_readsHammock 138 = .ok (.ifCond .eq 7, 3) := by decide +kernel
theorem dX6_readsHammock_141 : decode cX6_readsHammock 141 = .ok (.iconst 1, 1) := by decide +kernel
theorem dX6_readsHammock_142 : decode cX6_readsHammock 142 = .ok (.goto 4, 3) := by decide +kernel
theorem dX6_readsHammock_145 : decode cX6_readsHammock 145 = .ok (.iconst 0, 1) := by decide +kernel
theorem dX6_readsHammock_146 : decode cX6_readsHammock 146 = .ok (.ireturn, 1) := by decide +kernel
theorem dX6_reads_0 : decode cX6_reads 0 = .ok (.iconst 0, 1) := by decide +kernel
theorem dX6_reads_1 : decode cX6_reads 1 = .ok (.istore_n 1, 1) := by decide +kernel
theorem dX6_reads_2 : decode cX6_reads 2 = .ok (.iload_n 1, 1) := by decide +kernel
theorem dX6_reads_3 : decode cX6_reads 3 = .ok (.bipush 36, 2) := by decide +kernel
theorem dX6_reads_5 : decode cX6_reads 5 = .ok (.if_icmp .ge 16, 3) := by decide +kernel
theorem dX6_reads_8 : decode cX6_reads 8 = .ok (.aload_n 0, 1) := by decide +kernel
theorem dX6_reads_9 : decode cX6_reads 9 = .ok (.getfield 22, 3) := by decide +kernel
theorem dX6_reads_12 : decode cX6_reads 12 = .ok (.iload_n 1, 1) := by decide +kernel
theorem dX6_reads_13 : decode cX6_reads 13 = .ok (.iconst 0, 1) := by decide +kernel
theorem dX6_reads_14 : decode cX6_reads 14 = .ok (.iastore, 1) := by decide +kernel
theorem dX6_reads_15 : decode cX6_reads 15 = .ok (.iinc 1 1, 3) := by decide +kernel
theorem dX6_reads_18 : decode cX6_reads 18 = .ok (.goto (-16), 3) := by decide +kernel
theorem dX6_reads_21 : decode cX6_reads 21 = .ok (.aload_n 0, 1) := by decide +kernel
theorem dX6_reads_22 : decode cX6_reads 22 = .ok (.iconst 0, 1) := by decide +kernel
theorem dX6_reads_23 : decode cX6_reads 23 = .ok (.putfield 81, 3) := by decide +kernel
theorem dX6_reads_26 : decode cX6_reads 26 = .ok (.aload_n 0, 1) := by decide +kernel
theorem dX6_reads_27 : decode cX6_reads 27 = .ok (.invokevirtual 108, 3) := by decide +kernel
theorem dX6_reads_30 : decode cX6_reads 30 = .ok (.aload_n 0, 1) := by decide +kernel
theorem dX6_reads_31 : decode cX6_reads 31 = .ok (.getfield 102, 3) := by decide +kernel
theorem dX6_reads_34 : decode cX6_reads 34 = .ok (.iconst 1, 1) := by decide +kernel
theorem dX6_reads_35 : decode cX6_reads 35 = .ok (.if_icmp .ne 12, 3) := by decide +kernel
theorem dX6_reads_38 : decode cX6_reads 38 = .ok (.aload_n 0, 1) := by decide +kernel
theorem dX6_reads_39 : decode cX6_reads 39 = .ok (.getfield 91, 3) := by decide +kernel
theorem dX6_reads_42 : decode cX6_reads 42 = .ok (.bipush 116, 2) := by decide +kernel
theorem dX6_reads_44 : decode cX6_reads 44 = .ok (.if_icmp .eq 9, 3) := by decide +kernel
theorem dX6_reads_47 : decode cX6_reads 47 = .ok (.aload_n 0, 1) := by decide +kernel
theorem dX6_reads_48 : decode cX6_reads 48 = .ok (.iconst 1, 1) := by decide +kernel
theorem dX6_reads_49 : decode cX6_reads 49 = .ok (.invokevirtual 111, 3) := by decide +kernel
theorem dX6_reads_52 : decode cX6_reads 52 = .ok (.ireturn, 1) := by decide +kernel
theorem dX6_reads_53 : decode cX6_reads 53 = .ok (.aload_n 0, 1) := by decide +kernel
theorem dX6_reads_54 : decode cX6_reads 54 = .ok (.iconst 1, 1) := by decide +kernel
theorem dX6_reads_55 : decode cX6_reads 55 = .ok (.iconst 0, 1) := by decide +kernel
theorem dX6_reads_56 : decode cX6_reads 56 = .ok (.bipush 40, 2) := by decide +kernel
theorem dX6_reads_58 : decode cX6_reads 58 = .ok (.bipush 44, 2) := by decide +kernel
theorem dX6_reads_60 : decode cX6_reads 60 = .ok (.invokevirtual 117, 3) := by decide +kernel
theorem dX6_reads_63 : decode cX6_reads 63 = .ok (.ifCond .eq 15, 3) := by decide +kernel
theorem dX6_reads_66 : decode cX6_reads 66 = .ok (.aload_n 0, 1) := by decide +kernel
theorem dX6_reads_67 : decode cX6_reads 67 = .ok (.iconst 2, 1) := by decide +kernel
theorem dX6_reads_68 : decode cX6_reads 68 = .ok (.iconst 0, 1) := by decide +kernel
theorem dX6_reads_69 : decode cX6_reads 69 = .ok (.iconst 5, 1) := by decide +kernel
theorem dX6_reads_70 : decode cX6_reads 70 = .ok (.bipush 59, 2) := by decide +kernel
theorem dX6_reads_72 : decode cX6_reads 72 = .ok (.invokevirtual 117, 3) := by decide +kernel
theorem dX6_reads_75 : decode cX6_reads 75 = .ok (.ifCond .ne 5, 3) := by decide +kernel
theorem dX6_reads_78 : decode cX6_reads 78 = .ok (.iconst 0, 1) := by decide +kernel
theorem dX6_reads_79 : decode cX6_reads 79 = .ok (.ireturn, 1) := by decide +kernel
theorem dX6_reads_80 : decode cX6_reads 80 = .ok (.aload_n 0, 1) := by decide +kernel
theorem dX6_reads_81 : decode cX6_reads 81 = .ok (.getfield 22, 3) := by decide +kernel
theorem dX6_reads_84 : decode cX6_reads 84 = .ok (.iconst 3, 1) := by decide +kernel
theorem dX6_reads_85 : decode cX6_reads 85 = .ok (.iconst 1, 1) := by decide +kernel
theorem dX6_reads_86 : decode cX6_reads 86 = .ok (.iastore, 1) := by decide +kernel
theorem dX6_reads_87 : decode cX6_reads 87 = .ok (.aload_n 0, 1) := by decide +kernel
theorem dX6_reads_88 : decode cX6_reads 88 = .ok (.invokevirtual 108, 3) := by decide +kernel
theorem dX6_reads_91 : decode cX6_reads 91 = .ok (.aload_n 0, 1) := by decide +kernel
theorem dX6_reads_92 : decode cX6_reads 92 = .ok (.getfield 102, 3) := by decide +kernel
theorem dX6_reads_95 : decode cX6_reads 95 = .ok (.ifCond .eq 19, 3) := by decide +kernel
theorem dX6_reads_98 : decode cX6_reads 98 = .ok (.aload_n 0, 1) := by decide +kernel
theorem dX6_reads_99 : decode cX6_reads 99 = .ok (.invokevirtual 121, 3) := by decide +kernel
theorem dX6_reads_102 : decode cX6_reads 102 = .ok (.ifCond .ne 5, 3) := by decide +kernel
theorem dX6_reads_105 : decode cX6_reads 105 = .ok (.iconst 0, 1) := by decide +kernel
theorem dX6_reads_106 : decode cX6_reads 106 = .ok (.ireturn, 1) := by decide +kernel
theorem dX6_reads_107 : decode cX6_reads 107 = .ok (.aload_n 0, 1) := by decide +kernel
theorem dX6_reads_108 : decode cX6_reads 108 = .ok (.invokevirtual 108, 3) := by decide +kernel
theorem dX6_reads_111 : decode cX6_reads 111 = .ok (.goto (-20), 3) := by decide +kernel
theorem dX6_reads_114 : decode cX6_reads 114 = .ok (.iconst 1, 1) := by decide +kernel
theorem dX6_reads_115 : decode cX6_reads 115 = .ok (.ireturn, 1) := by decide +kernel
theorem dX6_forest_0 : decode cX6_forest 0 = .ok (.aload_n 0, 1) := by decide +kernel
theorem dX6_forest_1 : decode cX6_forest 1 = .ok (.invokevirtual 125, 3) := by decide +kernel
theorem dX6_forest_4 : decode cX6_forest 4 = .ok (.istore_n 1, 1) := by decide +kernel
theorem dX6_forest_5 : decode cX6_forest 5 = .ok (.aload_n 0, 1) := by decide +kernel
theorem dX6_forest_6 : decode cX6_forest 6 = .ok (.iconst 0, 1) := by decide +kernel
theorem dX6_forest_7 : decode cX6_forest 7 = .ok (.putfield 77, 3) := by decide +kernel
theorem dX6_forest_10 : decode cX6_forest 10 = .ok (.iload_n 1, 1) := by decide +kernel
theorem dX6_forest_11 : decode cX6_forest 11 = .ok (.ifCond .ne 19, 3) := by decide +kernel
theorem dX6_forest_14 : decode cX6_forest 14 = .ok (.aload_n 0, 1) := by decide +kernel
theorem dX6_forest_15 : decode cX6_forest 15 = .ok (.aload_n 0, 1) := by decide +kernel
theorem dX6_forest_16 : decode cX6_forest 16 = .ok (.getfield 105, 3) := by decide +kernel
theorem dX6_forest_19 : decode cX6_forest 19 = .ok (.putfield 128, 3) := by decide +kernel
theorem dX6_forest_22 : decode cX6_forest 22 = .ok (.ldc 131, 2) := by decide +kernel
theorem dX6_forest_24 : decode cX6_forest 24 = .ok (.aload_n 0, 1) := by decide +kernel
theorem dX6_forest_25 : decode cX6_forest 25 = .ok (.getfield 84, 3) := by decide +kernel
theorem dX6_forest_28 : decode cX6_forest 28 = .ok (.isub, 1) := by decide +kernel
theorem dX6_forest_29 : decode cX6_forest 29 = .ok (.ireturn, 1) := by decide +kernel
theorem dX6_forest_30 : decode cX6_forest 30 = .ok (.aload_n 0, 1) := by decide +kernel
theorem dX6_forest_31 : decode cX6_forest 31 = .ok (.getfield 22, 3) := by decide +kernel
theorem dX6_forest_34 : decode cX6_forest 34 = .ok (.iconst 0, 1) := by decide +kernel
theorem dX6_forest_35 : decode cX6_forest 35 = .ok (.aload_n 0, 1) := by decide +kernel
theorem dX6_forest_36 : decode cX6_forest 36 = .ok (.getfield 19, 3) := by decide +kernel
theorem dX6_forest_39 : decode cX6_forest 39 = .ok (.iconst 0, 1) := by decide +kernel
theorem dX6_forest_40 : decode cX6_forest 40 = .ok (.invokestatic 132, 3) := by decide +kernel
theorem dX6_forest_43 : decode cX6_forest 43 = .ok (.aload_n 0, 1) := by decide +kernel
theorem dX6_forest_44 : decode cX6_forest 44 = .ok (.iconst 0, 1) := by decide +kernel
theorem dX6_forest_45 : decode cX6_forest 45 = .ok (.putfield 136, 3) := by decide +kernel
theorem dX6_forest_48 : decode cX6_forest 48 = .ok (.aload_n 0, 1) := by decide +kernel
theorem dX6_forest_49 : decode cX6_forest 49 = .ok (.getfield 19, 3) := by decide +kernel
theorem dX6_forest_52 : decode cX6_forest 52 = .ok (.iconst 0, 1) := by decide +kernel
theorem dX6_forest_53 : decode cX6_forest 53 = .ok (.iaload, 1) := by decide +kernel
theorem dX6_forest_54 : decode cX6_forest 54 = .ok (.ireturn, 1) := by decide +kernel
theorem dX6_fault_0 : decode cX6_fault 0 = .ok (.aload_n 0, 1) := by decide +kernel
theorem dX6_fault_1 : decode cX6_fault 1 = .ok (.getfield 128, 3) := by decide +kernel
theorem dX6_fault_4 : decode cX6_fault 4 = .ok (.ireturn, 1) := by decide +kernel
theorem dX6_copies_0 : decode cX6_copies 0 = .ok (.iconst 0, 1) := by decide +kernel
theorem dX6_copies_1 : decode cX6_copies 1 = .ok (.istore 4, 2) := by decide +kernel
theorem dX6_copies_3 : decode cX6_copies 3 = .ok (.iload 4, 2) := by decide +kernel
theorem dX6_copies_5 : decode cX6_copies 5 = .ok (.bipush 36, 2) := by decide +kernel
theorem dX6_copies_7 : decode cX6_copies 7 = .ok (.if_icmp .ge 21, 3) := by decide +kernel
theorem dX6_copies_10 : decode cX6_copies 10 = .ok (.aload_n 2, 1) := by decide +kernel
theorem dX6_copies_11 : decode cX6_copies 11 = .ok (.iload_n 3, 1) := by decide +kernel
theorem dX6_copies_12 : decode cX6_copies 12 = .ok (.iload 4, 2) := by decide +kernel
theorem dX6_copies_14 : decode cX6_copies 14 = .ok (.iadd, 1) := by decide +kernel
theorem dX6_copies_15 : decode cX6_copies 15 = .ok (.aload_n 0, 1) := by decide +kernel
theorem dX6_copies_16 : decode cX6_copies 16 = .ok (.iload_n 1, 1) := by decide +kernel
theorem dX6_copies_17 : decode cX6_copies 17 = .ok (.iload 4, 2) := by decide +kernel
theorem dX6_copies_19 : decode cX6_copies 19 = .ok (.iadd, 1) := by decide +kernel
theorem dX6_copies_20 : decode cX6_copies 20 = .ok (.iaload, 1) := by decide +kernel
theorem dX6_copies_21 : decode cX6_copies 21 = .ok (.iastore, 1) := by decide +kernel
theorem dX6_copies_22 : decode cX6_copies 22 = .ok (.iinc 4 1, 3) := by decide +kernel
theorem dX6_copies_25 : decode cX6_copies 25 = .ok (.goto (-22), 3) := by decide +kernel
theorem dX6_copies_28 : decode cX6_copies 28 = .ok (.return_, 1) := by decide +kernel
theorem dX6_has_0 : decode cX6_has 0 = .ok (.iload_n 0, 1) := by decide +kernel
theorem dX6_has_1 : decode cX6_has 1 = .ok (.iload_n 1, 1) := by decide +kernel
theorem dX6_has_2 : decode cX6_has 2 = .ok (.ishr, 1) := by decide +kernel
theorem dX6_has_3 : decode cX6_has 3 = .ok (.iconst 1, 1) := by decide +kernel
theorem dX6_has_4 : decode cX6_has 4 = .ok (.iand, 1) := by decide +kernel
theorem dX6_has_5 : decode cX6_has 5 = .ok (.iconst 1, 1) := by decide +kernel
theorem dX6_has_6 : decode cX6_has 6 = .ok (.if_icmp .ne 7, 3) := by decide +kernel
theorem dX6_has_9 : decode cX6_has 9 = .ok (.iconst 1, 1) := by decide +kernel
theorem dX6_has_10 : decode cX6_has 10 = .ok (.goto 4, 3) := by decide +kernel
theorem dX6_has_13 : decode cX6_has 13 = .ok (.iconst 0, 1) := by decide +kernel
theorem dX6_has_14 : decode cX6_has 14 = .ok (.ireturn, 1) := by decide +kernel
theorem dX6_dip_0 : decode cX6_dip 0 = .ok (.aload_n 0, 1) := by decide +kernel
theorem dX6_dip_1 : decode cX6_dip 1 = .ok (.bipush 16, 2) := by decide +kernel
theorem dX6_dip_3 : decode cX6_dip 3 = .ok (.iload_n 1, 1) := by decide +kernel
theorem dX6_dip_4 : decode cX6_dip 4 = .ok (.iadd, 1) := by decide +kernel
theorem dX6_dip_5 : decode cX6_dip 5 = .ok (.iaload, 1) := by decide +kernel
theorem dX6_dip_6 : decode cX6_dip 6 = .ok (.aload_n 0, 1) := by decide +kernel
theorem dX6_dip_7 : decode cX6_dip 7 = .ok (.bipush 10, 2) := by decide +kernel
theorem dX6_dip_9 : decode cX6_dip 9 = .ok (.iload_n 1, 1) := by decide +kernel
theorem dX6_dip_10 : decode cX6_dip 10 = .ok (.iadd, 1) := by decide +kernel
theorem dX6_dip_11 : decode cX6_dip 11 = .ok (.iaload, 1) := by decide +kernel
theorem dX6_dip_12 : decode cX6_dip 12 = .ok (.isub, 1) := by decide +kernel
theorem dX6_dip_13 : decode cX6_dip 13 = .ok (.istore_n 3, 1) := by decide +kernel
theorem dX6_dip_14 : decode cX6_dip 14 = .ok (.aload_n 0, 1) := by decide +kernel
theorem dX6_dip_15 : decode cX6_dip 15 = .ok (.bipush 22, 2) := by decide +kernel
theorem dX6_dip_17 : decode cX6_dip 17 = .ok (.iload_n 1, 1) := by decide +kernel
theorem dX6_dip_18 : decode cX6_dip 18 = .ok (.iadd, 1) := by decide +kernel
theorem dX6_dip_19 : decode cX6_dip 19 = .ok (.iaload, 1) := by decide +kernel
theorem dX6_dip_20 : decode cX6_dip 20 = .ok (.iload_n 3, 1) := by decide +kernel
theorem dX6_dip_21 : decode cX6_dip 21 = .ok (.iconst 2, 1) := by decide +kernel
theorem dX6_dip_22 : decode cX6_dip 22 = .ok (.idiv, 1) := by decide +kernel
theorem dX6_dip_23 : decode cX6_dip 23 = .ok (.iadd, 1) := by decide +kernel
theorem dX6_dip_24 : decode cX6_dip 24 = .ok (.istore 4, 2) := by decide +kernel
theorem dX6_dip_26 : decode cX6_dip 26 = .ok (.aload_n 0, 1) := by decide +kernel
theorem dX6_dip_27 : decode cX6_dip 27 = .ok (.iconst 4, 1) := by decide +kernel
theorem dX6_dip_28 : decode cX6_dip 28 = .ok (.iload_n 1, 1) := by decide +kernel
theorem dX6_dip_29 : decode cX6_dip 29 = .ok (.iadd, 1) := by decide +kernel
theorem dX6_dip_30 : decode cX6_dip 30 = .ok (.iaload, 1) := by decide +kernel
theorem dX6_dip_31 : decode cX6_dip 31 = .ok (.tableswitch 47 1 4 #[29, 32, 37, 45], 29) := by decide +kernel
theorem dX6_dip_60 : decode cX6_dip 60 = .ok (.iload 4, 2) := by decide +kernel
theorem dX6_dip_62 : decode cX6_dip 62 = .ok (.ireturn, 1) := by decide +kernel
theorem dX6_dip_63 : decode cX6_dip 63 = .ok (.iload 4, 2) := by decide +kernel
theorem dX6_dip_65 : decode cX6_dip 65 = .ok (.iconst 2, 1) := by decide +kernel
theorem dX6_dip_66 : decode cX6_dip 66 = .ok (.idiv, 1) := by decide +kernel
theorem dX6_dip_67 : decode cX6_dip 67 = .ok (.ireturn, 1) := by decide +kernel
theorem dX6_dip_68 : decode cX6_dip 68 = .ok (.iload 4, 2) := by decide +kernel
theorem dX6_dip_70 : decode cX6_dip 70 = .ok (.iload_n 2, 1) := by decide +kernel
theorem dX6_dip_71 : decode cX6_dip 71 = .ok (.bipush 10, 2) := by decide +kernel
theorem dX6_dip_73 : decode cX6_dip 73 = .ok (.idiv, 1) := by decide +kernel
theorem dX6_dip_74 : decode cX6_dip 74 = .ok (.iadd, 1) := by decide +kernel
theorem dX6_dip_75 : decode cX6_dip 75 = .ok (.ireturn, 1) := by decide +kernel
theorem dX6_dip_76 : decode cX6_dip 76 = .ok (.iload_n 3, 1) := by decide +kernel
theorem dX6_dip_77 : decode cX6_dip 77 = .ok (.ireturn, 1) := by decide +kernel
theorem dX6_dip_78 : decode cX6_dip 78 = .ok (.iconst 0, 1) := by decide +kernel
theorem dX6_dip_79 : decode cX6_dip 79 = .ok (.ireturn, 1) := by decide +kernel
theorem dX6_swung_0 : decode cX6_swung 0 = .ok (.iload_n 1, 1) := by decide +kernel
theorem dX6_swung_1 : decode cX6_swung 1 = .ok (.ifCond .ne 5, 3) := by decide +kernel
theorem dX6_swung_4 : decode cX6_swung 4 = .ok (.iconst 0, 1) := by decide +kernel
theorem dX6_swung_5 : decode cX6_swung 5 = .ok (.ireturn, 1) := by decide +kernel
theorem dX6_swung_6 : decode cX6_swung 6 = .ok (.iload_n 0, 1) := by decide +kernel
theorem dX6_swung_7 : decode cX6_swung 7 = .ok (.iconst 4, 1) := by decide +kernel
theorem dX6_swung_8 : decode cX6_swung 8 = .ok (.iload_n 1, 1) := by decide +kernel
theorem dX6_swung_9 : decode cX6_swung 9 = .ok (.imul, 1) := by decide +kernel
theorem dX6_swung_10 : decode cX6_swung 10 = .ok (.irem, 1) := by decide +kernel
theorem dX6_swung_11 : decode cX6_swung 11 = .ok (.istore_n 2, 1) := by decide +kernel
theorem dX6_swung_12 : decode cX6_swung 12 = .ok (.iload_n 2, 1) := by decide +kernel
theorem dX6_swung_13 : decode cX6_swung 13 = .ok (.iload_n 1, 1) := by decide +kernel
theorem dX6_swung_14 : decode cX6_swung 14 = .ok (.if_icmp .gt 7, 3) := by decide +kernel
theorem dX6_swung_17 : decode cX6_swung 17 = .ok (.iload_n 2, 1) := by decide +kernel
theorem dX6_swung_18 : decode cX6_swung 18 = .ok (.goto 23, 3) := by decide +kernel
theorem dX6_swung_21 : decode cX6_swung 21 = .ok (.iload_n 2, 1) := by decide +kernel
theorem dX6_swung_22 : decode cX6_swung 22 = .ok (.iconst 3, 1) := by decide +kernel
theorem dX6_swung_23 : decode cX6_swung 23 = .ok (.iload_n 1, 1) := by decide +kernel
theorem dX6_swung_24 : decode cX6_swung 24 = .ok (.imul, 1) := by decide +kernel
theorem dX6_swung_25 : decode cX6_swung 25 = .ok (.if_icmp .gt 11, 3) := by decide +kernel
theorem dX6_swung_28 : decode cX6_swung 28 = .ok (.iconst 2, 1) := by decide +kernel
theorem dX6_swung_29 : decode cX6_swung 29 = .ok (.iload_n 1, 1) := by decide +kernel
theorem dX6_swung_30 : decode cX6_swung 30 = .ok (.imul, 1) := by decide +kernel
theorem dX6_swung_31 : decode cX6_swung 31 = .ok (.iload_n 2, 1) := by decide +kernel
theorem dX6_swung_32 : decode cX6_swung 32 = .ok (.isub, 1) := by decide +kernel
theorem dX6_swung_33 : decode cX6_swung 33 = .ok (.goto 8, 3) := by decide +kernel
theorem dX6_swung_36 : decode cX6_swung 36 = .ok (.iload_n 2, 1) := by decide +kernel
theorem dX6_swung_37 : decode cX6_swung 37 = .ok (.iconst 4, 1) := by decide +kernel
theorem dX6_swung_38 : decode cX6_swung 38 = .ok (.iload_n 1, 1) := by decide +kernel
theorem dX6_swung_39 : decode cX6_swung 39 = .ok (.imul, 1) := by decide +kernel
theorem dX6_swung_40 : decode cX6_swung 40 = .ok (.isub, 1) := by decide +kernel
theorem dX6_swung_41 : decode cX6_swung 41 = .ok (.ireturn, 1) := by decide +kernel
theorem dX6_where_0 : decode cX6_where 0 = .ok (.aload_n 0, 1) := by decide +kernel
theorem dX6_where_1 : decode cX6_where 1 = .ok (.iconst 4, 1) := by decide +kernel
theorem dX6_where_2 : decode cX6_where 2 = .ok (.iload_n 1, 1) := by decide +kernel
theorem dX6_where_3 : decode cX6_where 3 = .ok (.iadd, 1) := by decide +kernel
theorem dX6_where_4 : decode cX6_where 4 = .ok (.iaload, 1) := by decide +kernel
theorem dX6_where_5 : decode cX6_where 5 = .ok (.istore_n 3, 1) := by decide +kernel
theorem dX6_where_6 : decode cX6_where 6 = .ok (.aload_n 0, 1) := by decide +kernel
theorem dX6_where_7 : decode cX6_where 7 = .ok (.bipush 28, 2) := by decide +kernel
theorem dX6_where_9 : decode cX6_where 9 = .ok (.iload_n 1, 1) := by decide +kernel
theorem dX6_where_10 : decode cX6_where 10 = .ok (.iadd, 1) := by decide +kernel
theorem dX6_where_11 : decode cX6_where 11 = .ok (.iaload, 1) := by decide +kernel
theorem dX6_where_12 : decode cX6_where 12 = .ok (.istore 4, 2) := by decide +kernel
theorem dX6_where_14 : decode cX6_where 14 = .ok (.iload_n 3, 1) := by decide +kernel
theorem dX6_where_15 : decode cX6_where 15 = .ok (.iconst 1, 1) := by decide +kernel
theorem dX6_where_16 : decode cX6_where 16 = .ok (.if_icmp .eq 8, 3) := by decide +kernel
theorem dX6_where_19 : decode cX6_where 19 = .ok (.iload_n 3, 1) := by decide +kernel
theorem dX6_where_20 : decode cX6_where 20 = .ok (.iconst 2, 1) := by decide +kernel
theorem dX6_where_21 : decode cX6_where 21 = .ok (.if_icmp .ne 12, 3) := by decide +kernel
theorem dX6_where_24 : decode cX6_where 24 = .ok (.iload_n 2, 1) := by decide +kernel
theorem dX6_where_25 : decode cX6_where 25 = .ok (.iload 4, 2) := by decide +kernel
theorem dX6_where_27 : decode cX6_where 27 = .ok (.invokestatic 139, 3) := by decide +kernel
theorem dX6_where_30 : decode cX6_where 30 = .ok (.goto 30, 3) := by decide +kernel
theorem dX6_where_33 : decode cX6_where 33 = .ok (.iload_n 3, 1) := by decide +kernel
theorem dX6_where_34 : decode cX6_where 34 = .ok (.iconst 3, 1) := by decide +kernel
theorem dX6_where_35 : decode cX6_where 35 = .ok (.if_icmp .ne 14, 3) := by decide +kernel
theorem dX6_where_38 : decode cX6_where 38 = .ok (.iload_n 2, 1) := by decide +kernel
theorem dX6_where_39 : decode cX6_where 39 = .ok (.iconst 2, 1) := by decide +kernel
theorem dX6_where_40 : decode cX6_where 40 = .ok (.idiv, 1) := by decide +kernel
theorem dX6_where_41 : decode cX6_where 41 = .ok (.iload 4, 2) := by decide +kernel
theorem dX6_where_43 : decode cX6_where 43 = .ok (.invokestatic 139, 3) := by decide +kernel
theorem dX6_where_46 : decode cX6_where 46 = .ok (.goto 14, 3) := by decide +kernel
theorem dX6_where_49 : decode cX6_where 49 = .ok (.iload_n 3, 1) := by decide +kernel
theorem dX6_where_50 : decode cX6_where 50 = .ok (.iconst 4, 1) := by decide +kernel
theorem dX6_where_51 : decode cX6_where 51 = .ok (.if_icmp .ne 7, 3) := by decide +kernel
theorem dX6_where_54 : decode cX6_where 54 = .ok (.iconst 0, 1) := by decide +kernel
theorem dX6_where_55 : decode cX6_where 55 = .ok (.goto 5, 3) := by decide +kernel
theorem dX6_where_58 : decode cX6_where 58 = .ok (.iload 4, 2) := by decide +kernel
theorem dX6_where_60 : decode cX6_where 60 = .ok (.istore 5, 2) := by decide +kernel
theorem dX6_where_62 : decode cX6_where 62 = .ok (.aload_n 0, 1) := by decide +kernel
theorem dX6_where_63 : decode cX6_where 63 = .ok (.bipush 10, 2) := by decide +kernel
theorem dX6_where_65 : decode cX6_where 65 = .ok (.iload_n 1, 1) := by decide +kernel
theorem dX6_where_66 : decode cX6_where 66 = .ok (.iadd, 1) := by decide +kernel
theorem dX6_where_67 : decode cX6_where 67 = .ok (.iaload, 1) := by decide +kernel
theorem dX6_where_68 : decode cX6_where 68 = .ok (.aload_n 0, 1) := by decide +kernel
theorem dX6_where_69 : decode cX6_where 69 = .ok (.bipush 16, 2) := by decide +kernel
theorem dX6_where_71 : decode cX6_where 71 = .ok (.iload_n 1, 1) := by decide +kernel
theorem dX6_where_72 : decode cX6_where 72 = .ok (.iadd, 1) := by decide +kernel
theorem dX6_where_73 : decode cX6_where 73 = .ok (.iaload, 1) := by decide +kernel
theorem dX6_where_74 : decode cX6_where 74 = .ok (.iadd, 1) := by decide +kernel
theorem dX6_where_75 : decode cX6_where 75 = .ok (.iconst 2, 1) := by decide +kernel
theorem dX6_where_76 : decode cX6_where 76 = .ok (.iload 5, 2) := by decide +kernel
theorem dX6_where_78 : decode cX6_where 78 = .ok (.imul, 1) := by decide +kernel
theorem dX6_where_79 : decode cX6_where 79 = .ok (.iadd, 1) := by decide +kernel
theorem dX6_where_80 : decode cX6_where 80 = .ok (.ireturn, 1) := by decide +kernel
theorem dX6_isDown_0 : decode cX6_isDown 0 = .ok (.aload_n 0, 1) := by decide +kernel
theorem dX6_isDown_1 : decode cX6_isDown 1 = .ok (.bipush 34, 2) := by decide +kernel
theorem dX6_isDown_3 : decode cX6_isDown 3 = .ok (.iaload, 1) := by decide +kernel
theorem dX6_isDown_4 : decode cX6_isDown 4 = .ok (.iload_n 1, 1) := by decide +kernel
theorem dX6_isDown_5 : decode cX6_isDown 5 = .ok (.invokestatic 143, 3) := by decide +kernel
theorem dX6_isDown_8 : decode cX6_isDown 8 = .ok (.ifCond .ne 15, 3) := by decide +kernel
theorem dX6_isDown_11 : decode cX6_isDown 11 = .ok (.aload_n 0, 1) := by decide +kernel
theorem dX6_isDown_12 : decode cX6_isDown 12 = .ok (.iload_n 1, 1) := by decide +kernel
theorem dX6_isDown_13 : decode cX6_isDown 13 = .ok (.iload_n 2, 1) := by decide +kernel
theorem dX6_isDown_14 : decode cX6_isDown 14 = .ok (.invokestatic 147, 3) := by decide +kernel
theorem dX6_isDown_17 : decode cX6_isDown 17 = .ok (.aload_n 0, 1) := by decide +kernel
theorem dX6_isDown_18 : decode cX6_isDown 18 = .ok (.iconst 1, 1) := by decide +kernel
theorem dX6_isDown_19 : decode cX6_isDown 19 = .ok (.iaload, 1) := by decide +kernel
theorem dX6_isDown_20 : decode cX6_isDown 20 = .ok (.if_icmp .le 7, 3) := by decide +kernel
theorem dX6_isDown_23 : decode cX6_isDown 23 = .ok (.iconst 1, 1) := by decide +kernel
theorem dX6_isDown_24 : decode cX6_isDown 24 = .ok (.goto 4, 3) := by decide +kernel
theorem dX6_isDown_27 : decode cX6_isDown 27 = .ok (.iconst 0, 1) := by decide +kernel
theorem dX6_isDown_28 : decode cX6_isDown 28 = .ok (.ireturn, 1) := by decide +kernel
theorem dX6_downOf_0 : decode cX6_downOf 0 = .ok (.iconst 0, 1) := by decide +kernel
theorem dX6_downOf_1 : decode cX6_downOf 1 = .ok (.istore_n 2, 1) := by decide +kernel
theorem dX6_downOf_2 : decode cX6_downOf 2 = .ok (.iconst 0, 1) := by decide +kernel
theorem dX6_downOf_3 : decode cX6_downOf 3 = .ok (.istore_n 3, 1) := by decide +kernel
theorem dX6_downOf_4 : decode cX6_downOf 4 = .ok (.iload_n 3, 1) := by decide +kernel
theorem dX6_downOf_5 : decode cX6_downOf 5 = .ok (.aload_n 0, 1) := by decide +kernel
theorem dX6_downOf_6 : decode cX6_downOf 6 = .ok (.iconst 0, 1) := by decide +kernel
theorem dX6_downOf_7 : decode cX6_downOf 7 = .ok (.iaload, 1) := by decide +kernel
theorem dX6_downOf_8 : decode cX6_downOf 8 = .ok (.if_icmp .ge 28, 3) := by decide +kernel
theorem dX6_downOf_11 : decode cX6_downOf 11 = .ok (.iload_n 2, 1) := by decide +kernel
theorem dX6_downOf_12 : decode cX6_downOf 12 = .ok (.aload_n 0, 1) := by decide +kernel
theorem dX6_downOf_13 : decode cX6_downOf 13 = .ok (.iload_n 3, 1) := by decide +kernel
theorem dX6_downOf_14 : decode cX6_downOf 14 = .ok (.iload_n 1, 1) := by decide +kernel
theorem dX6_downOf_15 : decode cX6_downOf 15 = .ok (.invokestatic 151, 3) := by decide +kernel
theorem dX6_downOf_18 : decode cX6_downOf 18 = .ok (.ifCond .eq 9, 3) := by decide +kernel
theorem dX6_downOf_21 : decode cX6_downOf 21 = .ok (.iconst 1, 1) := by decide +kernel
theorem dX6_downOf_22 : decode cX6_downOf 22 = .ok (.iload_n 3, 1) := by decide +kernel
theorem dX6_downOf_23 : decode cX6_downOf 23 = .ok (.ishl, 1) := by decide +kernel
theorem dX6_downOf_24 : decode cX6_downOf 24 = .ok (.goto 4, 3) := by decide +kernel
theorem dX6_downOf_27 : decode cX6_downOf 27 = .ok (.iconst 0, 1) := by decide +kernel
theorem dX6_downOf_28 : decode cX6_downOf 28 = .ok (.ior, 1) := by decide +kernel
theorem dX6_downOf_29 : decode cX6_downOf 29 = .ok (.istore_n 2, 1) := by decide +kernel
theorem dX6_downOf_30 : decode cX6_downOf 30 = .ok (.iinc 3 1, 3) := by decide +kernel
theorem dX6_downOf_33 : decode cX6_downOf 33 = .ok (.goto (-29), 3) := by decide +kernel
theorem dX6_downOf_36 : decode cX6_downOf 36 = .ok (.iload_n 2, 1) := by decide +kernel
theorem dX6_downOf_37 : decode cX6_downOf 37 = .ok (.ireturn, 1) := by decide +kernel
theorem dX6_areNear_0 : decode cX6_areNear 0 = .ok (.aload_n 0, 1) := by decide +kernel
theorem dX6_areNear_1 : decode cX6_areNear 1 = .ok (.iload_n 1, 1) := by decide +kernel
theorem dX6_areNear_2 : decode cX6_areNear 2 = .ok (.iload_n 3, 1) := by decide +kernel
theorem dX6_areNear_3 : decode cX6_areNear 3 = .ok (.invokestatic 155, 3) := by decide +kernel
theorem dX6_areNear_6 : decode cX6_areNear 6 = .ok (.aload_n 0, 1) := by decide +kernel
theorem dX6_areNear_7 : decode cX6_areNear 7 = .ok (.iload_n 2, 1) := by decide +kernel
theorem dX6_areNear_8 : decode cX6_areNear 8 = .ok (.iload_n 3, 1) := by decide +kernel
theorem dX6_areNear_9 : decode cX6_areNear 9 = .ok (.invokestatic 155, 3) := by decide +kernel
theorem dX6_areNear_12 : decode cX6_areNear 12 = .ok (.isub, 1) := by decide +kernel
theorem dX6_areNear_13 : decode cX6_areNear 13 = .ok (.istore 4, 2) := by decide +kernel
theorem dX6_areNear_15 : decode cX6_areNear 15 = .ok (.iload_n 1, 1) := by decide +kernel
theorem dX6_areNear_16 : decode cX6_areNear 16 = .ok (.iload_n 2, 1) := by decide +kernel
theorem dX6_areNear_17 : decode cX6_areNear 17 = .ok (.if_icmp .eq 46, 3) := by decide +kernel
theorem dX6_areNear_20 : decode cX6_areNear 20 = .ok (.aload_n 0, 1) := by decide +kernel
theorem dX6_areNear_21 : decode cX6_areNear 21 = .ok (.iload_n 1, 1) := by decide +kernel
theorem dX6_areNear_22 : decode cX6_areNear 22 = .ok (.iload_n 3, 1) := by decide +kernel
theorem dX6_areNear_23 : decode cX6_areNear 23 = .ok (.invokestatic 151, 3) := by decide +kernel
theorem dX6_areNear_26 : decode cX6_areNear 26 = .ok (.ifCond .ne 37, 3) := by decide +kernel
theorem dX6_areNear_29 : decode cX6_areNear 29 = .ok (.aload_n 0, 1) := by decide +kernel
theorem dX6_areNear_30 : decode cX6_areNear 30 = .ok (.iload_n 2, 1) := by decide +kernel
theorem dX6_areNear_31 : decode cX6_areNear 31 = .ok (.iload_n 3, 1) := by decide +kernel
theorem dX6_areNear_32 : decode cX6_areNear 32 = .ok (.invokestatic 151, 3) := by decide +kernel
theorem dX6_areNear_35 : decode cX6_areNear 35 = .ok (.ifCond .ne 28, 3) := by decide +kernel
theorem dX6_areNear_38 : decode cX6_areNear 38 = .ok (.iload 4, 2) := by decide +kernel
theorem dX6_areNear_40 : decode cX6_areNear 40 = .ok (.iconst 2, 1) := by decide +kernel
theorem dX6_areNear_41 : decode cX6_areNear 41 = .ok (.aload_n 0, 1) := by decide +kernel
theorem dX6_areNear_42 : decode cX6_areNear 42 = .ok (.iconst 2, 1) := by decide +kernel
theorem dX6_areNear_43 : decode cX6_areNear 43 = .ok (.iaload, 1) := by decide +kernel
theorem dX6_areNear_44 : decode cX6_areNear 44 = .ok (.imul, 1) := by decide +kernel
theorem dX6_areNear_45 : decode cX6_areNear 45 = .ok (.if_icmp .gt 18, 3) := by decide +kernel
theorem dX6_areNear_48 : decode cX6_areNear 48 = .ok (.iload 4, 2) := by decide +kernel
theorem dX6_areNear_50 : decode cX6_areNear 50 = .ok (.ineg, 1) := by decide +kernel
theorem dX6_areNear_51 : decode cX6_areNear 51 = .ok (.iconst 2, 1) := by decide +kernel
theorem dX6_areNear_52 : decode cX6_areNear 52 = .ok (.aload_n 0, 1) := by decide +kernel
theorem dX6_areNear_53 : decode cX6_areNear 53 = .ok (.iconst 2, 1) := by decide +kernel
theorem dX6_areNear_54 : decode cX6_areNear 54 = .ok (.iaload, 1) := by decide +kernel
theorem dX6_areNear_55 : decode cX6_areNear 55 = .ok (.imul, 1) := by decide +kernel
theorem dX6_areNear_56 : decode cX6_areNear 56 = .ok (.if_icmp .gt 7, 3) := by decide +kernel
theorem dX6_areNear_59 : decode cX6_areNear 59 = .ok (.iconst 1, 1) := by decide +kernel
theorem dX6_areNear_60 : decode cX6_areNear 60 = .ok (.goto 4, 3) := by decide +kernel
theorem dX6_areNear_63 : decode cX6_areNear 63 = .ok (.iconst 0, 1) := by decide +kernel
theorem dX6_areNear_64 : decode cX6_areNear 64 = .ok (.ireturn, 1) := by decide +kernel
theorem dX6_reachOf_0 : decode cX6_reachOf 0 = .ok (.iconst 0, 1) := by decide +kernel
theorem dX6_reachOf_1 : decode cX6_reachOf 1 = .ok (.istore_n 3, 1) := by decide +kernel
theorem dX6_reachOf_2 : decode cX6_reachOf 2 = .ok (.iconst 0, 1) := by decide +kernel
theorem dX6_reachOf_3 : decode cX6_reachOf 3 = .ok (.istore 4, 2) := by decide +kernel
theorem dX6_reachOf_5 : decode cX6_reachOf 5 = .ok (.iload 4, 2) := by decide +kernel
theorem dX6_reachOf_7 : decode cX6_reachOf 7 = .ok (.aload_n 0, 1) := by decide +kernel
theorem dX6_reachOf_8 : decode cX6_reachOf 8 = .ok (.iconst 0, 1) := by decide +kernel
theorem dX6_reachOf_9 : decode cX6_reachOf 9 = .ok (.iaload, 1) := by decide +kernel
theorem dX6_reachOf_10 : decode cX6_reachOf 10 = .ok (.if_icmp .ge 31, 3) := by decide +kernel
theorem dX6_reachOf_13 : decode cX6_reachOf 13 = .ok (.iload_n 3, 1) := by decide +kernel
theorem dX6_reachOf_14 : decode cX6_reachOf 14 = .ok (.aload_n 0, 1) := by decide +kernel
theorem dX6_reachOf_15 : decode cX6_reachOf 15 = .ok (.iload_n 1, 1) := by decide +kernel
theorem dX6_reachOf_16 : decode cX6_reachOf 16 = .ok (.iload 4, 2) := by decide +kernel
theorem dX6_reachOf_18 : decode cX6_reachOf 18 = .ok (.iload_n 2, 1) := by decide +kernel
theorem dX6_reachOf_19 : decode cX6_reachOf 19 = .ok (.invokestatic 158, 3) := by decide +kernel
theorem dX6_reachOf_22 : decode cX6_reachOf 22 = .ok (.ifCond .eq 10, 3) := by decide +kernel
theorem dX6_reachOf_25 : decode cX6_reachOf 25 = .ok (.iconst 1, 1) := by decide +kernel
theorem dX6_reachOf_26 : decode cX6_reachOf 26 = .ok (.iload 4, 2) := by decide +kernel
theorem dX6_reachOf_28 : decode cX6_reachOf 28 = .ok (.ishl, 1) := by decide +kernel
theorem dX6_reachOf_29 : decode cX6_reachOf 29 = .ok (.goto 4, 3) := by decide +kernel
theorem dX6_reachOf_32 : decode cX6_reachOf 32 = .ok (.iconst 0, 1) := by decide +kernel
theorem dX6_reachOf_33 : decode cX6_reachOf 33 = .ok (.ior, 1) := by decide +kernel
theorem dX6_reachOf_34 : decode cX6_reachOf 34 = .ok (.istore_n 3, 1) := by decide +kernel
theorem dX6_reachOf_35 : decode cX6_reachOf 35 = .ok (.iinc 4 1, 3) := by decide +kernel
theorem dX6_reachOf_38 : decode cX6_reachOf 38 = .ok (.goto (-33), 3) := by decide +kernel
theorem dX6_reachOf_41 : decode cX6_reachOf 41 = .ok (.iload_n 3, 1) := by decide +kernel
theorem dX6_reachOf_42 : decode cX6_reachOf 42 = .ok (.ireturn, 1) := by decide +kernel
theorem dX6_spread_0 : decode cX6_spread 0 = .ok (.iconst 1, 1) := by decide +kernel
theorem dX6_spread_1 : decode cX6_spread 1 = .ok (.iload_n 1, 1) := by decide +kernel
theorem dX6_spread_2 : decode cX6_spread 2 = .ok (.ishl, 1) := by decide +kernel
theorem dX6_spread_3 : decode cX6_spread 3 = .ok (.istore_n 3, 1) := by decide +kernel
theorem dX6_spread_4 : decode cX6_spread 4 = .ok (.iconst 0, 1) := by decide +kernel
theorem dX6_spread_5 : decode cX6_spread 5 = .ok (.istore 4, 2) := by decide +kernel
theorem dX6_spread_7 : decode cX6_spread 7 = .ok (.iload 4, 2) := by decide +kernel
theorem dX6_spread_9 : decode cX6_spread 9 = .ok (.iload_n 2, 1) := by decide +kernel
theorem dX6_spread_10 : decode cX6_spread 10 = .ok (.if_icmp .ge 65, 3) := by decide +kernel
theorem dX6_spread_13 : decode cX6_spread 13 = .ok (.iconst 0, 1) := by decide +kernel
theorem dX6_spread_14 : decode cX6_spread 14 = .ok (.istore 5, 2) := by decide +kernel
theorem dX6_spread_16 : decode cX6_spread 16 = .ok (.iconst 0, 1) := by decide +kernel
theorem dX6_spread_17 : decode cX6_spread 17 = .ok (.istore 6, 2) := by decide +kernel
theorem dX6_spread_19 : decode cX6_spread 19 = .ok (.iload 6, 2) := by decide +kernel
theorem dX6_spread_21 : decode cX6_spread 21 = .ok (.aload_n 0, 1) := by decide +kernel
theorem dX6_spread_22 : decode cX6_spread 22 = .ok (.iconst 0, 1) := by decide +kernel
theorem dX6_spread_23 : decode cX6_spread 23 = .ok (.iaload, 1) := by decide +kernel
theorem dX6_spread_24 : decode cX6_spread 24 = .ok (.if_icmp .ge 40, 3) := by decide +kernel
theorem dX6_spread_27 : decode cX6_spread 27 = .ok (.iload 5, 2) := by decide +kernel
theorem dX6_spread_29 : decode cX6_spread 29 = .ok (.iload_n 3, 1) := by decide +kernel
theorem dX6_spread_30 : decode cX6_spread 30 = .ok (.iload 6, 2) := by decide +kernel
theorem dX6_spread_32 : decode cX6_spread 32 = .ok (.invokestatic 143, 3) := by decide +kernel
theorem dX6_spread_35 : decode cX6_spread 35 = .ok (.ifCond .eq 19, 3) := by decide +kernel
theorem dX6_spread_38 : decode cX6_spread 38 = .ok (.aload_n 0, 1) := by decide +kernel
theorem dX6_spread_39 : decode cX6_spread 39 = .ok (.iload 6, 2) := by decide +kernel
theorem dX6_spread_41 : decode cX6_spread 41 = .ok (.aload_n 0, 1) := by decide +kernel
theorem dX6_spread_42 : decode cX6_spread 42 = .ok (.bipush 35, 2) := by decide +kernel
theorem dX6_spread_44 : decode cX6_spread 44 = .ok (.iaload, 1) := by decide +kernel
theorem dX6_spread_45 : decode cX6_spread 45 = .ok (.iload 4, 2) := by decide +kernel
theorem dX6_spread_47 : decode cX6_spread 47 = .ok (.iadd, 1) := by decide +kernel
theorem dX6_spread_48 : decode cX6_spread 48 = .ok (.invokestatic 162, 3) := by decide +kernel
theorem dX6_spread_51 : decode cX6_spread 51 = .ok (.goto 4, 3) := by decide +kernel
theorem dX6_spread_54 : decode cX6_spread 54 = .ok (.iconst 0, 1) := by decide +kernel
theorem dX6_spread_55 : decode cX6_spread 55 = .ok (.ior, 1) := by decide +kernel
theorem dX6_spread_56 : decode cX6_spread 56 = .ok (.istore 5, 2) := by decide +kernel
theorem dX6_spread_58 : decode cX6_spread 58 = .ok (.iinc 6 1, 3) := by decide +kernel
theorem dX6_spread_61 : decode cX6_spread 61 = .ok (.goto (-42), 3) := by decide +kernel
theorem dX6_spread_64 : decode cX6_spread 64 = .ok (.iload_n 3, 1) := by decide +kernel
theorem dX6_spread_65 : decode cX6_spread 65 = .ok (.iload 5, 2) := by decide +kernel
theorem dX6_spread_67 : decode cX6_spread 67 = .ok (.ior, 1) := by decide +kernel
theorem dX6_spread_68 : decode cX6_spread 68 = .ok (.istore_n 3, 1) := by decide +kernel
theorem dX6_spread_69 : decode cX6_spread 69 = .ok (.iinc 4 1, 3) := by decide +kernel
theorem dX6_spread_72 : decode cX6_spread 72 = .ok (.goto (-65), 3) := by decide +kernel
theorem dX6_spread_75 : decode cX6_spread 75 = .ok (.iload_n 3, 1) := by decide +kernel
theorem dX6_spread_76 : decode cX6_spread 76 = .ok (.ireturn, 1) := by decide +kernel
theorem dX6_soonestOf_0 : decode cX6_soonestOf 0 = .ok (.iconst 1, 1) := by decide +kernel
theorem dX6_soonestOf_1 : decode cX6_soonestOf 1 = .ok (.iload_n 1, 1) := by decide +kernel
theorem dX6_soonestOf_2 : decode cX6_soonestOf 2 = .ok (.ishl, 1) := by decide +kernel
theorem dX6_soonestOf_3 : decode cX6_soonestOf 3 = .ok (.istore_n 3, 1) := by decide +kernel
theorem dX6_soonestOf_4 : decode cX6_soonestOf 4 = .ok (.iconst 0, 1) := by decide +kernel
theorem dX6_soonestOf_5 : decode cX6_soonestOf 5 = .ok (.istore 4, 2) := by decide +kernel
theorem dX6_soonestOf_7 : decode cX6_soonestOf 7 = .ok (.iload 4, 2) := by decide +kernel
theorem dX6_soonestOf_9 : decode cX6_soonestOf 9 = .ok (.bipush 61, 2) := by decide +kernel
theorem dX6_soonestOf_11 : decode cX6_soonestOf 11 = .ok (.if_icmp .ge 76, 3) := by decide +kernel
theorem dX6_soonestOf_14 : decode cX6_soonestOf 14 = .ok (.iload_n 3, 1) := by decide +kernel
theorem dX6_soonestOf_15 : decode cX6_soonestOf 15 = .ok (.iload_n 2, 1) := by decide +kernel
theorem dX6_soonestOf_16 : decode cX6_soonestOf 16 = .ok (.invokestatic 143, 3) := by decide +kernel
theorem dX6_soonestOf_19 : decode cX6_soonestOf 19 = .ok (.ifCond .eq 6, 3) := by decide +kernel
theorem dX6_soonestOf_22 : decode cX6_soonestOf 22 = .ok (.iload 4, 2) := by decide +kernel
theorem dX6_soonestOf_24 : decode cX6_soonestOf 24 = .ok (.ireturn, 1) := by decide +kernel
theorem dX6_soonestOf_25 : decode cX6_soonestOf 25 = .ok (.iconst 0, 1) := by decide +kernel
theorem dX6_soonestOf_26 : decode cX6_soonestOf 26 = .ok (.istore 5, 2) := by decide +kernel
theorem dX6_soonestOf_28 : decode cX6_soonestOf 28 = .ok (.iconst 0, 1) := by decide +kernel
theorem dX6_soonestOf_29 : decode cX6_soonestOf 29 = .ok (.istore 6, 2) := by decide +kernel
theorem dX6_soonestOf_31 : decode cX6_soonestOf 31 = .ok (.iload 6, 2) := by decide +kernel
theorem dX6_soonestOf_33 : decode cX6_soonestOf 33 = .ok (.aload_n 0, 1) := by decide +kernel
theorem dX6_soonestOf_34 : decode cX6_soonestOf 34 = .ok (.iconst 0, 1) := by decide +kernel
theorem dX6_soonestOf_35 : decode cX6_soonestOf 35 = .ok (.iaload, 1) := by decide +kernel
theorem dX6_soonestOf_36 : decode cX6_soonestOf 36 = .ok (.if_icmp .ge 40, 3) := by decide +kernel
theorem dX6_soonestOf_39 : decode cX6_soonestOf 39 = .ok (.iload 5, 2) := by decide +kernel
theorem dX6_soonestOf_41 : decode cX6_soonestOf 41 = .ok (.iload_n 3, 1) := by decide +kernel
theorem dX6_soonestOf_42 : decode cX6_soonestOf 42 = .ok (.iload 6, 2) := by decide +kernel
theorem dX6_soonestOf_44 : decode cX6_soonestOf 44 = .ok (.invokestatic 143, 3) := by decide +kernel
theorem dX6_soonestOf_47 : decode cX6_soonestOf 47 = .ok (.ifCond .eq 19, 3) := by decide +kernel
theorem dX6_soonestOf_50 : decode cX6_soonestOf 50 = .ok (.aload_n 0, 1) := by decide +kernel
theorem dX6_soonestOf_51 : decode cX6_soonestOf 51 = .ok (.iload 6, 2) := by decide +kernel
theorem dX6_soonestOf_53 : decode cX6_soonestOf 53 = .ok (.aload_n 0, 1) := by decide +kernel
theorem dX6_soonestOf_54 : decode cX6_soonestOf 54 = .ok (.bipush 35, 2) := by decide +kernel
theorem dX6_soonestOf_56 : decode cX6_soonestOf 56 = .ok (.iaload, 1) := by decide +kernel
theorem dX6_soonestOf_57 : decode cX6_soonestOf 57 = .ok (.iload 4, 2) := by decide +kernel
theorem dX6_soonestOf_59 : decode cX6_soonestOf 59 = .ok (.iadd, 1) := by decide +kernel
theorem dX6_soonestOf_60 : decode cX6_soonestOf 60 = .ok (.invokestatic 162, 3) := by decide +kernel
theorem dX6_soonestOf_63 : decode cX6_soonestOf 63 = .ok (.goto 4, 3) := by decide +kernel
theorem dX6_soonestOf_66 : decode cX6_soonestOf 66 = .ok (.iconst 0, 1) := by decide +kernel
theorem dX6_soonestOf_67 : decode cX6_soonestOf 67 = .ok (.ior, 1) := by decide +kernel
theorem dX6_soonestOf_68 : decode cX6_soonestOf 68 = .ok (.istore 5, 2) := by decide +kernel
theorem dX6_soonestOf_70 : decode cX6_soonestOf 70 = .ok (.iinc 6 1, 3) := by decide +kernel
theorem dX6_soonestOf_73 : decode cX6_soonestOf 73 = .ok (.goto (-42), 3) := by decide +kernel
theorem dX6_soonestOf_76 : decode cX6_soonestOf 76 = .ok (.iload_n 3, 1) := by decide +kernel
theorem dX6_soonestOf_77 : decode cX6_soonestOf 77 = .ok (.iload 5, 2) := by decide +kernel
theorem dX6_soonestOf_79 : decode cX6_soonestOf 79 = .ok (.ior, 1) := by decide +kernel
theorem dX6_soonestOf_80 : decode cX6_soonestOf 80 = .ok (.istore_n 3, 1) := by decide +kernel
theorem dX6_soonestOf_81 : decode cX6_soonestOf 81 = .ok (.iinc 4 1, 3) := by decide +kernel
theorem dX6_soonestOf_84 : decode cX6_soonestOf 84 = .ok (.goto (-77), 3) := by decide +kernel
theorem dX6_soonestOf_87 : decode cX6_soonestOf 87 = .ok (.ldc 165, 2) := by decide +kernel
theorem dX6_soonestOf_89 : decode cX6_soonestOf 89 = .ok (.ireturn, 1) := by decide +kernel
theorem dX6_isForest_0 : decode cX6_isForest 0 = .ok (.aload_n 0, 1) := by decide +kernel
theorem dX6_isForest_1 : decode cX6_isForest 1 = .ok (.getfield 19, 3) := by decide +kernel
theorem dX6_isForest_4 : decode cX6_isForest 4 = .ok (.iconst 3, 1) := by decide +kernel
theorem dX6_isForest_5 : decode cX6_isForest 5 = .ok (.iaload, 1) := by decide +kernel
theorem dX6_isForest_6 : decode cX6_isForest 6 = .ok (.iconst 1, 1) := by decide +kernel
theorem dX6_isForest_7 : decode cX6_isForest 7 = .ok (.if_icmp .ne 7, 3) := by decide +kernel
theorem dX6_isForest_10 : decode cX6_isForest 10 = .ok (.iconst 1, 1) := by decide +kernel
theorem dX6_isForest_11 : decode cX6_isForest 11 = .ok (.goto 4, 3) := by decide +kernel
theorem dX6_isForest_14 : decode cX6_isForest 14 = .ok (.iconst 0, 1) := by decide +kernel
theorem dX6_isForest_15 : decode cX6_isForest 15 = .ok (.ireturn, 1) := by decide +kernel
theorem dX6_isHammock_0 : decode cX6_isHammock 0 = .ok (.iload_n 1, 1) := by decide +kernel
theorem dX6_isHammock_1 : decode cX6_isHammock 1 = .ok (.i2l, 1) := by decide +kernel
theorem dX6_isHammock_2 : decode cX6_isHammock 2 = .ok (.lconst 0, 1) := by decide +kernel
theorem dX6_isHammock_3 : decode cX6_isHammock 3 = .ok (.aload_n 0, 1) := by decide +kernel
theorem dX6_isHammock_4 : decode cX6_isHammock 4 = .ok (.getfield 19, 3) := by decide +kernel
theorem dX6_isHammock_7 : decode cX6_isHammock 7 = .ok (.iconst 0, 1) := by decide +kernel
theorem dX6_isHammock_8 : decode cX6_isHammock 8 = .ok (.iaload, 1) := by decide +kernel
theorem dX6_isHammock_9 : decode cX6_isHammock 9 = .ok (.iconst 1, 1) := by decide +kernel
theorem dX6_isHammock_10 : decode cX6_isHammock 10 = .ok (.isub, 1) := by decide +kernel
theorem dX6_isHammock_11 : decode cX6_isHammock 11 = .ok (.i2l, 1) := by decide +kernel
theorem dX6_isHammock_12 : decode cX6_isHammock 12 = .ok (.invokestatic 57, 3) := by decide +kernel
theorem dX6_isHammock_15 : decode cX6_isHammock 15 = .ok (.ireturn, 1) := by decide +kernel
theorem dX6_isTwo_0 : decode cX6_isTwo 0 = .ok (.iload_n 0, 1) := by decide +kernel
theorem dX6_isTwo_1 : decode cX6_isTwo 1 = .ok (.i2l, 1) := by decide +kernel
theorem dX6_isTwo_2 : decode cX6_isTwo 2 = .ok (.lconst 0, 1) := by decide +kernel
theorem dX6_isTwo_3 : decode cX6_isTwo 3 = .ok (.lconst 1, 1) := by decide +kernel
theorem dX6_isTwo_4 : decode cX6_isTwo 4 = .ok (.invokestatic 57, 3) := by decide +kernel
theorem dX6_isTwo_7 : decode cX6_isTwo 7 = .ok (.ireturn, 1) := by decide +kernel
theorem dX6_isSpan_0 : decode cX6_isSpan 0 = .ok (.iload_n 0, 1) := by decide +kernel
theorem dX6_isSpan_1 : decode cX6_isSpan 1 = .ok (.i2l, 1) := by decide +kernel
theorem dX6_isSpan_2 : decode cX6_isSpan 2 = .ok (.lconst 0, 1) := by decide +kernel
theorem dX6_isSpan_3 : decode cX6_isSpan 3 = .ok (.ldc2_w 166, 3) := by decide +kernel
theorem dX6_isSpan_6 : decode cX6_isSpan 6 = .ok (.invokestatic 57, 3) := by decide +kernel
theorem dX6_isSpan_9 : decode cX6_isSpan 9 = .ok (.ireturn, 1) := by decide +kernel
theorem dX6_remember_0 : decode cX6_remember 0 = .ok (.aload_n 0, 1) := by decide +kernel
theorem dX6_remember_1 : decode cX6_remember 1 = .ok (.getfield 136, 3) := by decide +kernel
theorem dX6_remember_4 : decode cX6_remember 4 = .ok (.bipush 24, 2) := by decide +kernel
theorem dX6_remember_6 : decode cX6_remember 6 = .ok (.if_icmp .ne 43, 3) := by decide +kernel
theorem dX6_remember_9 : decode cX6_remember 9 = .ok (.iconst 0, 1) := by decide +kernel
theorem dX6_remember_10 : decode cX6_remember 10 = .ok (.istore_n 1, 1) := by decide +kernel
theorem dX6_remember_11 : decode cX6_remember 11 = .ok (.iload_n 1, 1) := by decide +kernel
theorem dX6_remember_12 : decode cX6_remember 12 = .ok (.sipush 828, 3) := by decide +kernel
theorem dX6_remember_15 : decode cX6_remember 15 = .ok (.if_icmp .ge 24, 3) := by decide +kernel
theorem dX6_remember_18 : decode cX6_remember 18 = .ok (.aload_n 0, 1) := by decide +kernel
theorem dX6_remember_19 : decode cX6_remember 19 = .ok (.getfield 28, 3) := by decide +kernel
theorem dX6_remember_22 : decode cX6_remember 22 = .ok (.iload_n 1, 1) := by decide +kernel
theorem dX6_remember_23 : decode cX6_remember 23 = .ok (.aload_n 0, 1) := by decide +kernel
theorem dX6_remember_24 : decode cX6_remember 24 = .ok (.getfield 28, 3) := by decide +kernel
theorem dX6_remember_27 : decode cX6_remember 27 = .ok (.iload_n 1, 1) := by decide +kernel
theorem dX6_remember_28 : decode cX6_remember 28 = .ok (.bipush 36, 2) := by decide +kernel
theorem dX6_remember_30 : decode cX6_remember 30 = .ok (.iadd, 1) := by decide +kernel
theorem dX6_remember_31 : decode cX6_remember 31 = .ok (.iaload, 1) := by decide +kernel
theorem dX6_remember_32 : decode cX6_remember 32 = .ok (.iastore, 1) := by decide +kernel
theorem dX6_remember_33 : decode cX6_remember 33 = .ok (.iinc 1 1, 3) := by decide +kernel
theorem dX6_remember_36 : decode cX6_remember 36 = .ok (.goto (-25), 3) := by decide +kernel
theorem dX6_remember_39 : decode cX6_remember 39 = .ok (.aload_n 0, 1) := by decide +kernel
theorem dX6_remember_40 : decode cX6_remember 40 = .ok (.dup, 1) := by decide +kernel
theorem dX6_remember_41 : decode cX6_remember 41 = .ok (.getfield 136, 3) := by decide +kernel
theorem dX6_remember_44 : decode cX6_remember 44 = .ok (.iconst 1, 1) := by decide +kernel
theorem dX6_remember_45 : decode cX6_remember 45 = .ok (.isub, 1) := by decide +kernel
theorem dX6_remember_46 : decode cX6_remember 46 = .ok (.putfield 136, 3) := by decide +kernel
theorem dX6_remember_49 : decode cX6_remember 49 = .ok (.aload_n 0, 1) := by decide +kernel
theorem dX6_remember_50 : decode cX6_remember 50 = .ok (.getfield 19, 3) := by decide +kernel
theorem dX6_remember_53 : decode cX6_remember 53 = .ok (.iconst 0, 1) := by decide +kernel
theorem dX6_remember_54 : decode cX6_remember 54 = .ok (.aload_n 0, 1) := by decide +kernel
theorem dX6_remember_55 : decode cX6_remember 55 = .ok (.getfield 28, 3) := by decide +kernel
theorem dX6_remember_58 : decode cX6_remember 58 = .ok (.bipush 36, 2) := by decide +kernel
theorem dX6_remember_60 : decode cX6_remember 60 = .ok (.aload_n 0, 1) := by decide +kernel
theorem dX6_remember_61 : decode cX6_remember 61 = .ok (.getfield 136, 3) := by decide +kernel
theorem dX6_remember_64 : decode cX6_remember 64 = .ok (.imul, 1) := by decide +kernel
theorem dX6_remember_65 : decode cX6_remember 65 = .ok (.invokestatic 132, 3) := by decide +kernel
theorem dX6_remember_68 : decode cX6_remember 68 = .ok (.aload_n 0, 1) := by decide +kernel
theorem dX6_remember_69 : decode cX6_remember 69 = .ok (.dup, 1) := by decide +kernel
theorem dX6_remember_70 : decode cX6_remember 70 = .ok (.getfield 136, 3) := by decide +kernel
theorem dX6_remember_73 : decode cX6_remember 73 = .ok (.iconst 1, 1) := by decide +kernel
theorem dX6_remember_74 : decode cX6_remember 74 = .ok (.iadd, 1) := by decide +kernel
theorem dX6_remember_75 : decode cX6_remember 75 = .ok (.putfield 136, 3) := by decide +kernel
theorem dX6_remember_78 : decode cX6_remember 78 = .ok (.return_, 1) := by decide +kernel
theorem dX6_minutes_0 : decode cX6_minutes 0 = .ok (.aload_n 0, 1) := by decide +kernel
theorem dX6_minutes_1 : decode cX6_minutes 1 = .ok (.invokevirtual 168, 3) := by decide +kernel
theorem dX6_minutes_4 : decode cX6_minutes 4 = .ok (.ifCond .ne 6, 3) := by decide +kernel
theorem dX6_minutes_7 : decode cX6_minutes 7 = .ok (.ldc 171, 2) := by decide +kernel
theorem dX6_minutes_9 : decode cX6_minutes 9 = .ok (.ireturn, 1) := by decide +kernel
theorem dX6_minutes_10 : decode cX6_minutes 10 = .ok (.iload_n 1, 1) := by decide +kernel
theorem dX6_minutes_11 : decode cX6_minutes 11 = .ok (.i2l, 1) := by decide +kernel
theorem dX6_minutes_12 : decode cX6_minutes 12 = .ok (.lconst 1, 1) := by decide +kernel
theorem dX6_minutes_13 : decode cX6_minutes 13 = .ok (.ldc2_w 172, 3) := by decide +kernel
theorem dX6_minutes_16 : decode cX6_minutes 16 = .ok (.invokestatic 57, 3) := by decide +kernel
theorem dX6_minutes_19 : decode cX6_minutes 19 = .ok (.ifCond .ne 6, 3) := by decide +kernel
theorem dX6_minutes_22 : decode cX6_minutes 22 = .ok (.ldc 67, 2) := by decide +kernel
theorem dX6_minutes_24 : decode cX6_minutes 24 = .ok (.ireturn, 1) := by decide +kernel
theorem dX6_minutes_25 : decode cX6_minutes 25 = .ok (.aload_n 0, 1) := by decide +kernel
theorem dX6_minutes_26 : decode cX6_minutes 26 = .ok (.getfield 19, 3) := by decide +kernel
theorem dX6_minutes_29 : decode cX6_minutes 29 = .ok (.bipush 35, 2) := by decide +kernel
theorem dX6_minutes_31 : decode cX6_minutes 31 = .ok (.iaload, 1) := by decide +kernel
theorem dX6_minutes_32 : decode cX6_minutes 32 = .ok (.iload_n 1, 1) := by decide +kernel
theorem dX6_minutes_33 : decode cX6_minutes 33 = .ok (.iadd, 1) := by decide +kernel
theorem dX6_minutes_34 : decode cX6_minutes 34 = .ok (.sipush 999, 3) := by decide +kernel
theorem dX6_minutes_37 : decode cX6_minutes 37 = .ok (.if_icmp .le 6, 3) := by decide +kernel
theorem dX6_minutes_40 : decode cX6_minutes 40 = .ok (.ldc 80, 2) := by decide +kernel
theorem dX6_minutes_42 : decode cX6_minutes 42 = .ok (.ireturn, 1) := by decide +kernel
theorem dX6_minutes_43 : decode cX6_minutes 43 = .ok (.iconst 0, 1) := by decide +kernel
theorem dX6_minutes_44 : decode cX6_minutes 44 = .ok (.istore_n 2, 1) := by decide +kernel
theorem dX6_minutes_45 : decode cX6_minutes 45 = .ok (.iload_n 2, 1) := by decide +kernel
theorem dX6_minutes_46 : decode cX6_minutes 46 = .ok (.iload_n 1, 1) := by decide +kernel
theorem dX6_minutes_47 : decode cX6_minutes 47 = .ok (.if_icmp .ge 24, 3) := by decide +kernel
theorem dX6_minutes_50 : decode cX6_minutes 50 = .ok (.aload_n 0, 1) := by decide +kernel
theorem dX6_minutes_51 : decode cX6_minutes 51 = .ok (.invokevirtual 174, 3) := by decide +kernel
theorem dX6_minutes_54 : decode cX6_minutes 54 = .ok (.aload_n 0, 1) := by decide +kernel
theorem dX6_minutes_55 : decode cX6_minutes 55 = .ok (.getfield 19, 3) := by decide +kernel
theorem dX6_minutes_58 : decode cX6_minutes 58 = .ok (.bipush 35, 2) := by decide +kernel
theorem dX6_minutes_60 : decode cX6_minutes 60 = .ok (.dup2, 1) := by decide +kernel
theorem dX6_minutes_61 : decode cX6_minutes 61 = .ok (.iaload, 1) := by decide +kernel
theorem dX6_minutes_62 : decode cX6_minutes 62 = .ok (.iconst 1, 1) := by decide +kernel
theorem dX6_minutes_63 : decode cX6_minutes 63 = .ok (.iadd, 1) := by decide +kernel
theorem dX6_minutes_64 : decode cX6_minutes 64 = .ok (.iastore, 1) := by decide +kernel
theorem dX6_minutes_65 : decode cX6_minutes 65 = .ok (.iinc 2 1, 3) := by decide +kernel
theorem dX6_minutes_68 : decode cX6_minutes 68 = .ok (.goto (-23), 3) := by decide +kernel
theorem dX6_minutes_71 : decode cX6_minutes 71 = .ok (.aload_n 0, 1) := by decide +kernel
theorem dX6_minutes_72 : decode cX6_minutes 72 = .ok (.getfield 19, 3) := by decide +kernel
theorem dX6_minutes_75 : decode cX6_minutes 75 = .ok (.aload_n 0, 1) := by decide +kernel
theorem dX6_minutes_76 : decode cX6_minutes 76 = .ok (.getfield 19, 3) := by decide +kernel
theorem dX6_minutes_79 : decode cX6_minutes 79 = .ok (.bipush 35, 2) := by decide +kernel
theorem dX6_minutes_81 : decode cX6_minutes 81 = .ok (.iaload, 1) := by decide +kernel
theorem dX6_minutes_82 : decode cX6_minutes 82 = .ok (.invokestatic 177, 3) := by decide +kernel
theorem dX6_minutes_85 : decode cX6_minutes 85 = .ok (.ireturn, 1) := by decide +kernel
theorem dX6_sling_0 : decode cX6_sling 0 = .ok (.aload_n 0, 1) := by decide +kernel
theorem dX6_sling_1 : decode cX6_sling 1 = .ok (.iload_n 1, 1) := by decide +kernel
theorem dX6_sling_2 : decode cX6_sling 2 = .ok (.invokevirtual 181, 3) := by decide +kernel
theorem dX6_sling_5 : decode cX6_sling 5 = .ok (.ifCond .eq 32, 3) := by decide +kernel
theorem dX6_sling_8 : decode cX6_sling 8 = .ok (.iload_n 2, 1) := by decide +kernel
theorem dX6_sling_9 : decode cX6_sling 9 = .ok (.i2l, 1) := by decide +kernel
theorem dX6_sling_10 : decode cX6_sling 10 = .ok (.lconst 0, 1) := by decide +kernel
theorem dX6_sling_11 : decode cX6_sling 11 = .ok (.ldc2_w 184, 3) := by decide +kernel
theorem dX6_sling_14 : decode cX6_sling 14 = .ok (.invokestatic 57, 3) := by decide +kernel
theorem dX6_sling_17 : decode cX6_sling 17 = .ok (.ifCond .eq 20, 3) := by decide +kernel
theorem dX6_sling_20 : decode cX6_sling 20 = .ok (.iload_n 3, 1) := by decide +kernel
theorem dX6_sling_21 : decode cX6_sling 21 = .ok (.i2l, 1) := by decide +kernel
theorem dX6_sling_22 : decode cX6_sling 22 = .ok (.lconst 0, 1) := by decide +kernel
theorem dX6_sling_23 : decode cX6_sling 23 = .ok (.ldc2_w 184, 3) := by decide +kernel
theorem dX6_sling_26 : decode cX6_sling 26 = .ok (.invokestatic 57, 3) := by decide +kernel
theorem dX6_sling_29 : decode cX6_sling 29 = .ok (.ifCond .eq 8, 3) := by decide +kernel
theorem dX6_sling_32 : decode cX6_sling 32 = .ok (.iload_n 3, 1) := by decide +kernel
theorem dX6_sling_33 : decode cX6_sling 33 = .ok (.iload_n 2, 1) := by decide +kernel
theorem dX6_sling_34 : decode cX6_sling 34 = .ok (.if_icmp .gt 6, 3) := by decide +kernel
theorem dX6_sling_37 : decode cX6_sling 37 = .ok (.ldc 67, 2) := by decide +kernel
theorem dX6_sling_39 : decode cX6_sling 39 = .ok (.ireturn, 1) := by decide +kernel
theorem dX6_sling_40 : decode cX6_sling 40 = .ok (.aload_n 0, 1) := by decide +kernel
theorem dX6_sling_41 : decode cX6_sling 41 = .ok (.getfield 19, 3) := by decide +kernel
theorem dX6_sling_44 : decode cX6_sling 44 = .ok (.bipush 10, 2) := by decide +kernel
theorem dX6_sling_46 : decode cX6_sling 46 = .ok (.iload_n 1, 1) := by decide +kernel
theorem dX6_sling_47 : decode cX6_sling 47 = .ok (.iadd, 1) := by decide +kernel
theorem dX6_sling_48 : decode cX6_sling 48 = .ok (.iaload, 1) := by decide +kernel
theorem dX6_sling_49 : decode cX6_sling 49 = .ok (.iload_n 2, 1) := by decide +kernel
theorem dX6_sling_50 : decode cX6_sling 50 = .ok (.if_icmp .ne 19, 3) := by decide +kernel
theorem dX6_sling_53 : decode cX6_sling 53 = .ok (.aload_n 0, 1) := by decide +kernel
theorem dX6_sling_54 : decode cX6_sling 54 = .ok (.getfield 19, 3) := by decide +kernel
theorem dX6_sling_57 : decode cX6_sling 57 = .ok (.bipush 16, 2) := by decide +kernel
theorem dX6_sling_59 : decode cX6_sling 59 = .ok (.iload_n 1, 1) := by decide +kernel
theorem dX6_sling_60 : decode cX6_sling 60 = .ok (.iadd, 1) := by decide +kernel
theorem dX6_sling_61 : decode cX6_sling 61 = .ok (.iaload, 1) := by decide +kernel
theorem dX6_sling_62 : decode cX6_sling 62 = .ok (.iload_n 3, 1) := by decide +kernel
theorem dX6_sling_63 : decode cX6_sling 63 = .ok (.if_icmp .ne 6, 3) := by decide +kernel
theorem dX6_sling_66 : decode cX6_sling 66 = .ok (.ldc 171, 2) := by decide +kernel
theorem dX6_sling_68 : decode cX6_sling 68 = .ok (.ireturn, 1) := by decide +kernel
theorem dX6_sling_69 : decode cX6_sling 69 = .ok (.aload_n 0, 1) := by decide +kernel
theorem dX6_sling_70 : decode cX6_sling 70 = .ok (.invokevirtual 174, 3) := by decide +kernel
theorem dX6_sling_73 : decode cX6_sling 73 = .ok (.aload_n 0, 1) := by decide +kernel
theorem dX6_sling_74 : decode cX6_sling 74 = .ok (.getfield 19, 3) := by decide +kernel
theorem dX6_sling_77 : decode cX6_sling 77 = .ok (.bipush 10, 2) := by decide +kernel
theorem dX6_sling_79 : decode cX6_sling 79 = .ok (.iload_n 1, 1) := by decide +kernel
theorem dX6_sling_80 : decode cX6_sling 80 = .ok (.iadd, 1) := by decide +kernel
theorem dX6_sling_81 : decode cX6_sling 81 = .ok (.iload_n 2, 1) := by decide +kernel
theorem dX6_sling_82 : decode cX6_sling 82 = .ok (.iastore, 1) := by decide +kernel
theorem dX6_sling_83 : decode cX6_sling 83 = .ok (.aload_n 0, 1) := by decide +kernel
theorem dX6_sling_84 : decode cX6_sling 84 = .ok (.getfield 19, 3) := by decide +kernel
theorem dX6_sling_87 : decode cX6_sling 87 = .ok (.bipush 16, 2) := by decide +kernel
theorem dX6_sling_89 : decode cX6_sling 89 = .ok (.iload_n 1, 1) := by decide +kernel
theorem dX6_sling_90 : decode cX6_sling 90 = .ok (.iadd, 1) := by decide +kernel
theorem dX6_sling_91 : decode cX6_sling 91 = .ok (.iload_n 3, 1) := by decide +kernel
theorem dX6_sling_92 : decode cX6_sling 92 = .ok (.iastore, 1) := by decide +kernel
theorem dX6_sling_93 : decode cX6_sling 93 = .ok (.aload_n 0, 1) := by decide +kernel
theorem dX6_sling_94 : decode cX6_sling 94 = .ok (.getfield 19, 3) := by decide +kernel
theorem dX6_sling_97 : decode cX6_sling 97 = .ok (.iload_n 1, 1) := by decide +kernel
theorem dX6_sling_98 : decode cX6_sling 98 = .ok (.aload_n 0, 1) := by decide +kernel
theorem dX6_sling_99 : decode cX6_sling 99 = .ok (.getfield 19, 3) := by decide +kernel
theorem dX6_sling_102 : decode cX6_sling 102 = .ok (.bipush 35, 2) := by decide +kernel
theorem dX6_sling_104 : decode cX6_sling 104 = .ok (.iaload, 1) := by decide +kernel
theorem dX6_sling_105 : decode cX6_sling 105 = .ok (.invokestatic 155, 3) := by decide +kernel
theorem dX6_sling_108 : decode cX6_sling 108 = .ok (.ireturn, 1) := by decide +kernel
theorem dX6_load_0 : decode cX6_load 0 = .ok (.aload_n 0, 1) := by decide +kernel
theorem dX6_load_1 : decode cX6_load 1 = .ok (.iload_n 1, 1) := by decide +kernel
theorem dX6_load_2 : decode cX6_load 2 = .ok (.invokevirtual 181, 3) := by decide +kernel
theorem dX6_load_5 : decode cX6_load 5 = .ok (.ifCond .eq 15, 3) := by decide +kernel
theorem dX6_load_8 : decode cX6_load 8 = .ok (.iload_n 2, 1) := by decide +kernel
theorem dX6_load_9 : decode cX6_load 9 = .ok (.i2l, 1) := by decide +kernel
theorem dX6_load_10 : decode cX6_load 10 = .ok (.lconst 1, 1) := by decide +kernel
theorem dX6_load_11 : decode cX6_load 11 = .ok (.ldc2_w 186, 3) := by decide +kernel
theorem dX6_load_14 : decode cX6_load 14 = .ok (.invokestatic 57, 3) := by decide +kernel
theorem dX6_load_17 : decode cX6_load 17 = .ok (.ifCond .ne 6, 3) := by decide +kernel
theorem dX6_load_20 : decode cX6_load 20 = .ok (.ldc 67, 2) := by decide +kernel
theorem dX6_load_22 : decode cX6_load 22 = .ok (.ireturn, 1) := by decide +kernel
theorem dX6_load_23 : decode cX6_load 23 = .ok (.aload_n 0, 1) := by decide +kernel
theorem dX6_load_24 : decode cX6_load 24 = .ok (.invokevirtual 174, 3) := by decide +kernel
theorem dX6_load_27 : decode cX6_load 27 = .ok (.aload_n 0, 1) := by decide +kernel
theorem dX6_load_28 : decode cX6_load 28 = .ok (.getfield 19, 3) := by decide +kernel
theorem dX6_load_31 : decode cX6_load 31 = .ok (.bipush 22, 2) := by decide +kernel
theorem dX6_load_33 : decode cX6_load 33 = .ok (.iload_n 1, 1) := by decide +kernel
theorem dX6_load_34 : decode cX6_load 34 = .ok (.iadd, 1) := by decide +kernel
theorem dX6_load_35 : decode cX6_load 35 = .ok (.iload_n 2, 1) := by decide +kernel
theorem dX6_load_36 : decode cX6_load 36 = .ok (.iastore, 1) := by decide +kernel
theorem dX6_load_37 : decode cX6_load 37 = .ok (.aload_n 0, 1) := by decide +kernel
theorem dX6_load_38 : decode cX6_load 38 = .ok (.getfield 19, 3) := by decide +kernel
theorem dX6_load_41 : decode cX6_load 41 = .ok (.iload_n 1, 1) := by decide +kernel
theorem dX6_load_42 : decode cX6_load 42 = .ok (.aload_n 0, 1) := by decide +kernel
theorem dX6_load_43 : decode cX6_load 43 = .ok (.getfield 19, 3) := by decide +kernel
theorem dX6_load_46 : decode cX6_load 46 = .ok (.bipush 35, 2) := by decide +kernel
theorem dX6_load_48 : decode cX6_load 48 = .ok (.iaload, 1) := by decide +kernel
theorem dX6_load_49 : decode cX6_load 49 = .ok (.invokestatic 147, 3) := by decide +kernel
theorem dX6_load_52 : decode cX6_load 52 = .ok (.ireturn, 1) := by decide +kernel
theorem dX6_cord_0 : decode cX6_cord 0 = .ok (.aload_n 0, 1) := by decide +kernel
theorem dX6_cord_1 : decode cX6_cord 1 = .ok (.iload_n 1, 1) := by decide +kernel
theorem dX6_cord_2 : decode cX6_cord 2 = .ok (.invokevirtual 181, 3) := by decide +kernel
theorem dX6_cord_5 : decode cX6_cord 5 = .ok (.ifCond .eq 10, 3) := by decide +kernel
theorem dX6_cord_8 : decode cX6_cord 8 = .ok (.iload_n 2, 1) := by decide +kernel
theorem dX6_cord_9 : decode cX6_cord 9 = .ok (.invokestatic 188, 3) := by decide +kernel
theorem dX6_cord_12 : decode cX6_cord 12 = .ok (.ifCond .ne 6, 3) := by decide +kernel
theorem dX6_cord_15 : decode cX6_cord 15 = .ok (.ldc 67, 2) := by decide +kernel
theorem dX6_cord_17 : decode cX6_cord 17 = .ok (.ireturn, 1) := by decide +kernel
theorem dX6_cord_18 : decode cX6_cord 18 = .ok (.aload_n 0, 1) := by decide +kernel
theorem dX6_cord_19 : decode cX6_cord 19 = .ok (.getfield 19, 3) := by decide +kernel
theorem dX6_cord_22 : decode cX6_cord 22 = .ok (.bipush 34, 2) := by decide +kernel
theorem dX6_cord_24 : decode cX6_cord 24 = .ok (.iaload, 1) := by decide +kernel
theorem dX6_cord_25 : decode cX6_cord 25 = .ok (.iload_n 1, 1) := by decide +kernel
theorem dX6_cord_26 : decode cX6_cord 26 = .ok (.invokestatic 143, 3) := by decide +kernel
theorem dX6_cord_29 : decode cX6_cord 29 = .ok (.iload_n 2, 1) := by decide +kernel
theorem dX6_cord_30 : decode cX6_cord 30 = .ok (.iconst 1, 1) := by decide +kernel
theorem dX6_cord_31 : decode cX6_cord 31 = .ok (.if_icmp .ne 7, 3) := by decide +kernel
theorem dX6_cord_34 : decode cX6_cord 34 = .ok (.iconst 1, 1) := by decide +kernel
theorem dX6_cord_35 : decode cX6_cord 35 = .ok (.goto 4, 3) := by decide +kernel
theorem dX6_cord_38 : decode cX6_cord 38 = .ok (.iconst 0, 1) := by decide +kernel
theorem dX6_cord_39 : decode cX6_cord 39 = .ok (.if_icmp .ne 6, 3) := by decide +kernel
theorem dX6_cord_42 : decode cX6_cord 42 = .ok (.ldc 171, 2) := by decide +kernel
theorem dX6_cord_44 : decode cX6_cord 44 = .ok (.ireturn, 1) := by decide +kernel
theorem dX6_cord_45 : decode cX6_cord 45 = .ok (.aload_n 0, 1) := by decide +kernel
theorem dX6_cord_46 : decode cX6_cord 46 = .ok (.invokevirtual 174, 3) := by decide +kernel
theorem dX6_cord_49 : decode cX6_cord 49 = .ok (.aload_n 0, 1) := by decide +kernel
theorem dX6_cord_50 : decode cX6_cord 50 = .ok (.getfield 19, 3) := by decide +kernel
theorem dX6_cord_53 : decode cX6_cord 53 = .ok (.bipush 34, 2) := by decide +kernel
theorem dX6_cord_55 : decode cX6_cord 55 = .ok (.dup2, 1) := by decide +kernel
theorem dX6_cord_56 : decode cX6_cord 56 = .ok (.iaload, 1) := by decide +kernel
theorem dX6_cord_57 : decode cX6_cord 57 = .ok (.iconst 1, 1) := by decide +kernel
theorem dX6_cord_58 : decode cX6_cord 58 = .ok (.iload_n 1, 1) := by decide +kernel
theorem dX6_cord_59 : decode cX6_cord 59 = .ok (.ishl, 1) := by decide +kernel
theorem dX6_cord_60 : decode cX6_cord 60 = .ok (.ixor, 1) := by decide +kernel
theorem dX6_cord_61 : decode cX6_cord 61 = .ok (.iastore, 1) := by decide +kernel
theorem dX6_cord_62 : decode cX6_cord 62 = .ok (.aload_n 0, 1) := by decide +kernel
theorem dX6_cord_63 : decode cX6_cord 63 = .ok (.getfield 19, 3) := by decide +kernel
theorem dX6_cord_66 : decode cX6_cord 66 = .ok (.bipush 34, 2) := by decide +kernel
theorem dX6_cord_68 : decode cX6_cord 68 = .ok (.iaload, 1) := by decide +kernel
theorem dX6_cord_69 : decode cX6_cord 69 = .ok (.ireturn, 1) := by decide +kernel
theorem dX6_undo_0 : decode cX6_undo 0 = .ok (.aload_n 0, 1) := by decide +kernel
theorem dX6_undo_1 : decode cX6_undo 1 = .ok (.getfield 136, 3) := by decide +kernel
theorem dX6_undo_4 : decode cX6_undo 4 = .ok (.ifCond .ne 6, 3) := by decide +kernel
theorem dX6_undo_7 : decode cX6_undo 7 = .ok (.ldc 171, 2) := by decide +kernel
theorem dX6_undo_9 : decode cX6_undo 9 = .ok (.ireturn, 1) := by decide +kernel
theorem dX6_undo_10 : decode cX6_undo 10 = .ok (.aload_n 0, 1) := by decide +kernel
theorem dX6_undo_11 : decode cX6_undo 11 = .ok (.dup, 1) := by decide +kernel
theorem dX6_undo_12 : decode cX6_undo 12 = .ok (.getfield 136, 3) := by decide +kernel
theorem dX6_undo_15 : decode cX6_undo 15 = .ok (.iconst 1, 1) := by decide +kernel
theorem dX6_undo_16 : decode cX6_undo 16 = .ok (.isub, 1) := by decide +kernel
theorem dX6_undo_17 : decode cX6_undo 17 = .ok (.putfield 136, 3) := by decide +kernel
theorem dX6_undo_20 : decode cX6_undo 20 = .ok (.aload_n 0, 1) := by decide +kernel
theorem dX6_undo_21 : decode cX6_undo 21 = .ok (.getfield 28, 3) := by decide +kernel
theorem dX6_undo_24 : decode cX6_undo 24 = .ok (.bipush 36, 2) := by decide +kernel
theorem dX6_undo_26 : decode cX6_undo 26 = .ok (.aload_n 0, 1) := by decide +kernel
theorem dX6_undo_27 : decode cX6_undo 27 = .ok (.getfield 136, 3) := by decide +kernel
theorem dX6_undo_30 : decode cX6_undo 30 = .ok (.imul, 1) := by decide +kernel
theorem dX6_undo_31 : decode cX6_undo 31 = .ok (.aload_n 0, 1) := by decide +kernel
theorem dX6_undo_32 : decode cX6_undo 32 = .ok (.getfield 19, 3) := by decide +kernel
theorem dX6_undo_35 : decode cX6_undo 35 = .ok (.iconst 0, 1) := by decide +kernel
theorem dX6_undo_36 : decode cX6_undo 36 = .ok (.invokestatic 132, 3) := by decide +kernel
theorem dX6_undo_39 : decode cX6_undo 39 = .ok (.aload_n 0, 1) := by decide +kernel
theorem dX6_undo_40 : decode cX6_undo 40 = .ok (.getfield 136, 3) := by decide +kernel
theorem dX6_undo_43 : decode cX6_undo 43 = .ok (.ireturn, 1) := by decide +kernel
theorem dX6_hammock_0 : decode cX6_hammock 0 = .ok (.aload_n 0, 1) := by decide +kernel
theorem dX6_hammock_1 : decode cX6_hammock 1 = .ok (.iload_n 1, 1) := by decide +kernel
theorem dX6_hammock_2 : decode cX6_hammock 2 = .ok (.invokevirtual 181, 3) := by decide +kernel
theorem dX6_hammock_5 : decode cX6_hammock 5 = .ok (.ifCond .ne 6, 3) := by decide +kernel
theorem dX6_hammock_8 : decode cX6_hammock 8 = .ok (.ldc 67, 2) := by decide +kernel
theorem dX6_hammock_10 : decode cX6_hammock 10 = .ok (.ireturn, 1) := by decide +kernel
theorem dX6_hammock_11 : decode cX6_hammock 11 = .ok (.iload_n 2, 1) := by decide +kernel
theorem dX6_hammock_12 : decode cX6_hammock 12 = .ok (.tableswitch 111 0 6 #[44, 44, 44, 44, 59, 79, 95], 44) := by decide +kernel
theorem dX6_hammock_56 : decode cX6_hammock 56 = .ok (.aload_n 0, 1) := by decide +kernel
theorem dX6_hammock_57 : decode cX6_hammock 57 = .ok (.getfield 19, 3) := by decide +kernel
theorem dX6_hammock_60 : decode cX6_hammock 60 = .ok (.bipush 10, 2) := by decide +kernel
theorem dX6_hammock_62 : decode cX6_hammock 62 = .ok (.bipush 6, 2) := by decide +kernel
theorem dX6_hammock_64 : decode cX6_hammock 64 = .ok (.iload_n 2, 1) := by decide +kernel
theorem dX6_hammock_65 : decode cX6_hammock 65 = .ok (.imul, 1) := by decide +kernel
theorem dX6_hammock_66 : decode cX6_hammock 66 = .ok (.iadd, 1) := by decide +kernel
theorem dX6_hammock_67 : decode cX6_hammock 67 = .ok (.iload_n 1, 1) := by decide +kernel
theorem dX6_hammock_68 : decode cX6_hammock 68 = .ok (.iadd, 1) := by decide +kernel
theorem dX6_hammock_69 : decode cX6_hammock 69 = .ok (.iaload, 1) := by decide +kernel
theorem dX6_hammock_70 : decode cX6_hammock 70 = .ok (.ireturn, 1) := by decide +kernel
theorem dX6_hammock_71 : decode cX6_hammock 71 = .ok (.aload_n 0, 1) := by decide +kernel
theorem dX6_hammock_72 : decode cX6_hammock 72 = .ok (.getfield 19, 3) := by decide +kernel
theorem dX6_hammock_75 : decode cX6_hammock 75 = .ok (.bipush 34, 2) := by decide +kernel
theorem dX6_hammock_77 : decode cX6_hammock 77 = .ok (.iaload, 1) := by decide +kernel
theorem dX6_hammock_78 : decode cX6_hammock 78 = .ok (.iload_n 1, 1) := by decide +kernel
theorem dX6_hammock_79 : decode cX6_hammock 79 = .ok (.invokestatic 143, 3) := by decide +kernel
theorem dX6_hammock_82 : decode cX6_hammock 82 = .ok (.ifCond .eq 7, 3) := by decide +kernel
theorem dX6_hammock_85 : decode cX6_hammock 85 = .ok (.iconst 1, 1) := by decide +kernel
theorem dX6_hammock_86 : decode cX6_hammock 86 = .ok (.goto 4, 3) := by decide +kernel
theorem dX6_hammock_89 : decode cX6_hammock 89 = .ok (.iconst 0, 1) := by decide +kernel
theorem dX6_hammock_90 : decode cX6_hammock 90 = .ok (.ireturn, 1) := by decide +kernel
theorem dX6_hammock_91 : decode cX6_hammock 91 = .ok (.aload_n 0, 1) := by decide +kernel
theorem dX6_hammock_92 : decode cX6_hammock 92 = .ok (.getfield 19, 3) := by decide +kernel
theorem dX6_hammock_95 : decode cX6_hammock 95 = .ok (.iload_n 1, 1) := by decide +kernel
theorem dX6_hammock_96 : decode cX6_hammock 96 = .ok (.aload_n 0, 1) := by decide +kernel
theorem dX6_hammock_97 : decode cX6_hammock 97 = .ok (.getfield 19, 3) := by decide +kernel
theorem dX6_hammock_100 : decode cX6_hammock 100 = .ok (.bipush 35, 2) := by decide +kernel
theorem dX6_hammock_102 : decode cX6_hammock 102 = .ok (.iaload, 1) := by decide +kernel
theorem dX6_hammock_103 : decode cX6_hammock 103 = .ok (.invokestatic 147, 3) := by decide +kernel
theorem dX6_hammock_106 : decode cX6_hammock 106 = .ok (.ireturn, 1) := by decide +kernel
theorem dX6_hammock_107 : decode cX6_hammock 107 = .ok (.aload_n 0, 1) := by decide +kernel
theorem dX6_hammock_108 : decode cX6_hammock 108 = .ok (.getfield 19, 3) := by decide +kernel
theorem dX6_hammock_111 : decode cX6_hammock 111 = .ok (.iload_n 1, 1) := by decide +kernel
theorem dX6_hammock_112 : decode cX6_hammock 112 = .ok (.aload_n 0, 1) := by decide +kernel
theorem dX6_hammock_113 : decode cX6_hammock 113 = .ok (.getfield 19, 3) := by decide +kernel
theorem dX6_hammock_116 : decode cX6_hammock 116 = .ok (.bipush 35, 2) := by decide +kernel
theorem dX6_hammock_118 : decode cX6_hammock 118 = .ok (.iaload, 1) := by decide +kernel
theorem dX6_hammock_119 : decode cX6_hammock 119 = .ok (.invokestatic 155, 3) := by decide +kernel
theorem dX6_hammock_122 : decode cX6_hammock 122 = .ok (.ireturn, 1) := by decide +kernel
theorem dX6_hammock_123 : decode cX6_hammock 123 = .ok (.ldc 67, 2) := by decide +kernel
theorem dX6_hammock_125 : decode cX6_hammock 125 = .ok (.ireturn, 1) := by decide +kernel
theorem dX6_ahead_0 : decode cX6_ahead 0 = .ok (.aload_n 0, 1) := by decide +kernel
theorem dX6_ahead_1 : decode cX6_ahead 1 = .ok (.iload_n 1, 1) := by decide +kernel
theorem dX6_ahead_2 : decode cX6_ahead 2 = .ok (.invokevirtual 181, 3) := by decide +kernel
theorem dX6_ahead_5 : decode cX6_ahead 5 = .ok (.ifCond .eq 17, 3) := by decide +kernel
theorem dX6_ahead_8 : decode cX6_ahead 8 = .ok (.iload_n 2, 1) := by decide +kernel
theorem dX6_ahead_9 : decode cX6_ahead 9 = .ok (.invokestatic 191, 3) := by decide +kernel
theorem dX6_ahead_12 : decode cX6_ahead 12 = .ok (.ifCond .eq 10, 3) := by decide +kernel
theorem dX6_ahead_15 : decode cX6_ahead 15 = .ok (.iload_n 3, 1) := by decide +kernel
theorem dX6_ahead_16 : decode cX6_ahead 16 = .ok (.invokestatic 188, 3) := by decide +kernel
theorem dX6_ahead_19 : decode cX6_ahead 19 = .ok (.ifCond .ne 6, 3) := by decide +kernel
theorem dX6_ahead_22 : decode cX6_ahead 22 = .ok (.ldc 67, 2) := by decide +kernel
theorem dX6_ahead_24 : decode cX6_ahead 24 = .ok (.ireturn, 1) := by decide +kernel
theorem dX6_ahead_25 : decode cX6_ahead 25 = .ok (.iload_n 3, 1) := by decide +kernel
theorem dX6_ahead_26 : decode cX6_ahead 26 = .ok (.ifCond .ne 23, 3) := by decide +kernel
theorem dX6_ahead_29 : decode cX6_ahead 29 = .ok (.aload_n 0, 1) := by decide +kernel
theorem dX6_ahead_30 : decode cX6_ahead 30 = .ok (.getfield 19, 3) := by decide +kernel
theorem dX6_ahead_33 : decode cX6_ahead 33 = .ok (.iload_n 1, 1) := by decide +kernel
theorem dX6_ahead_34 : decode cX6_ahead 34 = .ok (.aload_n 0, 1) := by decide +kernel
theorem dX6_ahead_35 : decode cX6_ahead 35 = .ok (.getfield 19, 3) := by decide +kernel
theorem dX6_ahead_38 : decode cX6_ahead 38 = .ok (.bipush 35, 2) := by decide +kernel
theorem dX6_ahead_40 : decode cX6_ahead 40 = .ok (.iaload, 1) := by decide +kernel
theorem dX6_ahead_41 : decode cX6_ahead 41 = .ok (.iload_n 2, 1) := by decide +kernel
theorem dX6_ahead_42 : decode cX6_ahead 42 = .ok (.iadd, 1) := by decide +kernel
theorem dX6_ahead_43 : decode cX6_ahead 43 = .ok (.invokestatic 155, 3) := by decide +kernel
theorem dX6_ahead_46 : decode cX6_ahead 46 = .ok (.goto 20, 3) := by decide +kernel
theorem dX6_ahead_49 : decode cX6_ahead 49 = .ok (.aload_n 0, 1) := by decide +kernel
theorem dX6_ahead_50 : decode cX6_ahead 50 = .ok (.getfield 19, 3) := by decide +kernel
theorem dX6_ahead_53 : decode cX6_ahead 53 = .ok (.iload_n 1, 1) := by decide +kernel
theorem dX6_ahead_54 : decode cX6_ahead 54 = .ok (.aload_n 0, 1) := by decide +kernel
theorem dX6_ahead_55 : decode cX6_ahead 55 = .ok (.getfield 19, 3) := by decide +kernel
theorem dX6_ahead_58 : decode cX6_ahead 58 = .ok (.bipush 35, 2) := by decide +kernel
theorem dX6_ahead_60 : decode cX6_ahead 60 = .ok (.iaload, 1) := by decide +kernel
theorem dX6_ahead_61 : decode cX6_ahead 61 = .ok (.iload_n 2, 1) := by decide +kernel
theorem dX6_ahead_62 : decode cX6_ahead 62 = .ok (.iadd, 1) := by decide +kernel
theorem dX6_ahead_63 : decode cX6_ahead 63 = .ok (.invokestatic 147, 3) := by decide +kernel
theorem dX6_ahead_66 : decode cX6_ahead 66 = .ok (.ireturn, 1) := by decide +kernel
theorem dX6_down_0 : decode cX6_down 0 = .ok (.aload_n 0, 1) := by decide +kernel
theorem dX6_down_1 : decode cX6_down 1 = .ok (.invokevirtual 168, 3) := by decide +kernel
theorem dX6_down_4 : decode cX6_down 4 = .ok (.ifCond .ne 6, 3) := by decide +kernel
theorem dX6_down_7 : decode cX6_down 7 = .ok (.ldc 171, 2) := by decide +kernel
theorem dX6_down_9 : decode cX6_down 9 = .ok (.ireturn, 1) := by decide +kernel
theorem dX6_down_10 : decode cX6_down 10 = .ok (.iload_n 1, 1) := by decide +kernel
theorem dX6_down_11 : decode cX6_down 11 = .ok (.invokestatic 191, 3) := by decide +kernel
theorem dX6_down_14 : decode cX6_down 14 = .ok (.ifCond .eq 22, 3) := by decide +kernel
theorem dX6_down_17 : decode cX6_down 17 = .ok (.aload_n 0, 1) := by decide +kernel
theorem dX6_down_18 : decode cX6_down 18 = .ok (.getfield 19, 3) := by decide +kernel
theorem dX6_down_21 : decode cX6_down 21 = .ok (.aload_n 0, 1) := by decide +kernel
theorem dX6_down_22 : decode cX6_down 22 = .ok (.getfield 19, 3) := by decide +kernel
theorem dX6_down_25 : decode cX6_down 25 = .ok (.bipush 35, 2) := by decide +kernel
theorem dX6_down_27 : decode cX6_down 27 = .ok (.iaload, 1) := by decide +kernel
theorem dX6_down_28 : decode cX6_down 28 = .ok (.iload_n 1, 1) := by decide +kernel
theorem dX6_down_29 : decode cX6_down 29 = .ok (.iadd, 1) := by decide +kernel
theorem dX6_down_30 : decode cX6_down 30 = .ok (.invokestatic 177, 3) := by decide +kernel
theorem dX6_down_33 : decode cX6_down 33 = .ok (.goto 5, 3) := by decide +kernel
theorem dX6_down_36 : decode cX6_down 36 = .ok (.ldc 67, 2) := by decide +kernel
theorem dX6_down_38 : decode cX6_down 38 = .ok (.ireturn, 1) := by decide +kernel
theorem dX6_reach_0 : decode cX6_reach 0 = .ok (.aload_n 0, 1) := by decide +kernel
theorem dX6_reach_1 : decode cX6_reach 1 = .ok (.iload_n 1, 1) := by decide +kernel
theorem dX6_reach_2 : decode cX6_reach 2 = .ok (.invokevirtual 181, 3) := by decide +kernel
theorem dX6_reach_5 : decode cX6_reach 5 = .ok (.ifCond .eq 30, 3) := by decide +kernel
theorem dX6_reach_8 : decode cX6_reach 8 = .ok (.iload_n 2, 1) := by decide +kernel
theorem dX6_reach_9 : decode cX6_reach 9 = .ok (.invokestatic 191, 3) := by decide +kernel
theorem dX6_reach_12 : decode cX6_reach 12 = .ok (.ifCond .eq 23, 3) := by decide +kernel
theorem dX6_reach_15 : decode cX6_reach 15 = .ok (.aload_n 0, 1) := by decide +kernel
theorem dX6_reach_16 : decode cX6_reach 16 = .ok (.getfield 19, 3) := by decide +kernel
theorem dX6_reach_19 : decode cX6_reach 19 = .ok (.iload_n 1, 1) := by decide +kernel
theorem dX6_reach_20 : decode cX6_reach 20 = .ok (.aload_n 0, 1) := by decide +kernel
theorem dX6_reach_21 : decode cX6_reach 21 = .ok (.getfield 19, 3) := by decide +kernel
theorem dX6_reach_24 : decode cX6_reach 24 = .ok (.bipush 35, 2) := by decide +kernel
theorem dX6_reach_26 : decode cX6_reach 26 = .ok (.iaload, 1) := by decide +kernel
theorem dX6_reach_27 : decode cX6_reach 27 = .ok (.iload_n 2, 1) := by decide +kernel
theorem dX6_reach_28 : decode cX6_reach 28 = .ok (.iadd, 1) := by decide +kernel
theorem dX6_reach_29 : decode cX6_reach 29 = .ok (.invokestatic 162, 3) := by decide +kernel
theorem dX6_reach_32 : decode cX6_reach 32 = .ok (.goto 5, 3) := by decide +kernel
theorem dX6_reach_35 : decode cX6_reach 35 = .ok (.ldc 67, 2) := by decide +kernel
theorem dX6_reach_37 : decode cX6_reach 37 = .ok (.ireturn, 1) := by decide +kernel
theorem dX6_meet_0 : decode cX6_meet 0 = .ok (.aload_n 0, 1) := by decide +kernel
theorem dX6_meet_1 : decode cX6_meet 1 = .ok (.iload_n 1, 1) := by decide +kernel
theorem dX6_meet_2 : decode cX6_meet 2 = .ok (.invokevirtual 181, 3) := by decide +kernel
theorem dX6_meet_5 : decode cX6_meet 5 = .ok (.ifCond .eq 16, 3) := by decide +kernel
theorem dX6_meet_8 : decode cX6_meet 8 = .ok (.aload_n 0, 1) := by decide +kernel
theorem dX6_meet_9 : decode cX6_meet 9 = .ok (.iload_n 2, 1) := by decide +kernel
theorem dX6_meet_10 : decode cX6_meet 10 = .ok (.invokevirtual 181, 3) := by decide +kernel
theorem dX6_meet_13 : decode cX6_meet 13 = .ok (.ifCond .eq 8, 3) := by decide +kernel
theorem dX6_meet_16 : decode cX6_meet 16 = .ok (.iload_n 1, 1) := by decide +kernel
theorem dX6_meet_17 : decode cX6_meet 17 = .ok (.iload_n 2, 1) := by decide +kernel
theorem dX6_meet_18 : decode cX6_meet 18 = .ok (.if_icmp .ne 6, 3) := by decide +kernel
theorem dX6_meet_21 : decode cX6_meet 21 = .ok (.ldc 67, 2) := by decide +kernel
theorem dX6_meet_23 : decode cX6_meet 23 = .ok (.ireturn, 1) := by decide +kernel
theorem dX6_meet_24 : decode cX6_meet 24 = .ok (.iconst 0, 1) := by decide +kernel
theorem dX6_meet_25 : decode cX6_meet 25 = .ok (.istore_n 3, 1) := by decide +kernel
theorem dX6_meet_26 : decode cX6_meet 26 = .ok (.iload_n 3, 1) := by decide +kernel
theorem dX6_meet_27 : decode cX6_meet 27 = .ok (.bipush 61, 2) := by decide +kernel
theorem dX6_meet_29 : decode cX6_meet 29 = .ok (.if_icmp .ge 32, 3) := by decide +kernel
theorem dX6_meet_32 : decode cX6_meet 32 = .ok (.aload_n 0, 1) := by decide +kernel
theorem dX6_meet_33 : decode cX6_meet 33 = .ok (.getfield 19, 3) := by decide +kernel
theorem dX6_meet_36 : decode cX6_meet 36 = .ok (.iload_n 1, 1) := by decide +kernel
theorem dX6_meet_37 : decode cX6_meet 37 = .ok (.iload_n 2, 1) := by decide +kernel
theorem dX6_meet_38 : decode cX6_meet 38 = .ok (.aload_n 0, 1) := by decide +kernel
theorem dX6_meet_39 : decode cX6_meet 39 = .ok (.getfield 19, 3) := by decide +kernel
theorem dX6_meet_42 : decode cX6_meet 42 = .ok (.bipush 35, 2) := by decide +kernel
theorem dX6_meet_44 : decode cX6_meet 44 = .ok (.iaload, 1) := by decide +kernel
theorem dX6_meet_45 : decode cX6_meet 45 = .ok (.iload_n 3, 1) := by decide +kernel
theorem dX6_meet_46 : decode cX6_meet 46 = .ok (.iadd, 1) := by decide +kernel
theorem dX6_meet_47 : decode cX6_meet 47 = .ok (.invokestatic 158, 3) := by decide +kernel
theorem dX6_meet_50 : decode cX6_meet 50 = .ok (.ifCond .eq 5, 3) := by decide +kernel
theorem dX6_meet_53 : decode cX6_meet 53 = .ok (.iload_n 3, 1) := by decide +kernel
theorem dX6_meet_54 : decode cX6_meet 54 = .ok (.ireturn, 1) := by decide +kernel
theorem dX6_meet_55 : decode cX6_meet 55 = .ok (.iinc 3 1, 3) := by decide +kernel
theorem dX6_meet_58 : decode cX6_meet 58 = .ok (.goto (-32), 3) := by decide +kernel
theorem dX6_meet_61 : decode cX6_meet 61 = .ok (.ldc 194, 2) := by decide +kernel
theorem dX6_meet_63 : decode cX6_meet 63 = .ok (.ireturn, 1) := by decide +kernel
theorem dX6_told_0 : decode cX6_told 0 = .ok (.iload_n 0, 1) := by decide +kernel
theorem dX6_told_1 : decode cX6_told 1 = .ok (.ldc 165, 2) := by decide +kernel
theorem dX6_told_3 : decode cX6_told 3 = .ok (.if_icmp .lt 8, 3) := by decide +kernel
theorem dX6_told_6 : decode cX6_told 6 = .ok (.ldc 194, 2) := by decide +kernel
theorem dX6_told_8 : decode cX6_told 8 = .ok (.goto 4, 3) := by decide +kernel
theorem dX6_told_11 : decode cX6_told 11 = .ok (.iload_n 0, 1) := by decide +kernel
theorem dX6_told_12 : decode cX6_told 12 = .ok (.ireturn, 1) := by decide +kernel
theorem dX6_soonest_0 : decode cX6_soonest 0 = .ok (.aload_n 0, 1) := by decide +kernel
theorem dX6_soonest_1 : decode cX6_soonest 1 = .ok (.iload_n 1, 1) := by decide +kernel
theorem dX6_soonest_2 : decode cX6_soonest 2 = .ok (.invokevirtual 181, 3) := by decide +kernel
theorem dX6_soonest_5 : decode cX6_soonest 5 = .ok (.ifCond .eq 26, 3) := by decide +kernel
theorem dX6_soonest_8 : decode cX6_soonest 8 = .ok (.aload_n 0, 1) := by decide +kernel
theorem dX6_soonest_9 : decode cX6_soonest 9 = .ok (.iload_n 2, 1) := by decide +kernel
theorem dX6_soonest_10 : decode cX6_soonest 10 = .ok (.invokevirtual 181, 3) := by decide +kernel
theorem dX6_soonest_13 : decode cX6_soonest 13 = .ok (.ifCond .eq 18, 3) := by decide +kernel
theorem dX6_soonest_16 : decode cX6_soonest 16 = .ok (.aload_n 0, 1) := by decide +kernel
theorem dX6_soonest_17 : decode cX6_soonest 17 = .ok (.getfield 19, 3) := by decide +kernel
theorem dX6_soonest_20 : decode cX6_soonest 20 = .ok (.iload_n 1, 1) := by decide +kernel
theorem dX6_soonest_21 : decode cX6_soonest 21 = .ok (.iload_n 2, 1) := by decide +kernel
theorem dX6_soonest_22 : decode cX6_soonest 22 = .ok (.invokestatic 195, 3) := by decide +kernel
theorem dX6_soonest_25 : decode cX6_soonest 25 = .ok (.invokestatic 198, 3) := by decide +kernel
theorem dX6_soonest_28 : decode cX6_soonest 28 = .ok (.goto 5, 3) := by decide +kernel
theorem dX6_soonest_31 : decode cX6_soonest 31 = .ok (.ldc 67, 2) := by decide +kernel
theorem dX6_soonest_33 : decode cX6_soonest 33 = .ok (.ireturn, 1) := by decide +kernel
theorem dX6_hands_0 : decode cX6_hands 0 = .ok (.aload_n 0, 1) := by decide +kernel
theorem dX6_hands_1 : decode cX6_hands 1 = .ok (.iload_n 1, 1) := by decide +kernel
theorem dX6_hands_2 : decode cX6_hands 2 = .ok (.invokevirtual 181, 3) := by decide +kernel
theorem dX6_hands_5 : decode cX6_hands 5 = .ok (.ifCond .eq 11, 3) := by decide +kernel
theorem dX6_hands_8 : decode cX6_hands 8 = .ok (.aload_n 0, 1) := by decide +kernel
theorem dX6_hands_9 : decode cX6_hands 9 = .ok (.iload_n 2, 1) := by decide +kernel
theorem dX6_hands_10 : decode cX6_hands 10 = .ok (.invokevirtual 181, 3) := by decide +kernel
theorem dX6_hands_13 : decode cX6_hands 13 = .ok (.ifCond .ne 6, 3) := by decide +kernel
theorem dX6_hands_16 : decode cX6_hands 16 = .ok (.ldc 67, 2) := by decide +kernel
theorem dX6_hands_18 : decode cX6_hands 18 = .ok (.ireturn, 1) := by decide +kernel
theorem dX6_hands_19 : decode cX6_hands 19 = .ok (.iconst 0, 1) := by decide +kernel
theorem dX6_hands_20 : decode cX6_hands 20 = .ok (.istore_n 3, 1) := by decide +kernel
theorem dX6_hands_21 : decode cX6_hands 21 = .ok (.iload_n 3, 1) := by decide +kernel
theorem dX6_hands_22 : decode cX6_hands 22 = .ok (.bipush 6, 2) := by decide +kernel
theorem dX6_hands_24 : decode cX6_hands 24 = .ok (.if_icmp .ge 26, 3) := by decide +kernel
theorem dX6_hands_27 : decode cX6_hands 27 = .ok (.aload_n 0, 1) := by decide +kernel
theorem dX6_hands_28 : decode cX6_hands 28 = .ok (.getfield 44, 3) := by decide +kernel
theorem dX6_hands_31 : decode cX6_hands 31 = .ok (.iload_n 3, 1) := by decide +kernel
theorem dX6_hands_32 : decode cX6_hands 32 = .ok (.iload_n 3, 1) := by decide +kernel
theorem dX6_hands_33 : decode cX6_hands 33 = .ok (.iload_n 1, 1) := by decide +kernel
theorem dX6_hands_34 : decode cX6_hands 34 = .ok (.if_icmp .ne 7, 3) := by decide +kernel
theorem dX6_hands_37 : decode cX6_hands 37 = .ok (.iconst 0, 1) := by decide +kernel
theorem dX6_hands_38 : decode cX6_hands 38 = .ok (.goto 5, 3) := by decide +kernel
theorem dX6_hands_41 : decode cX6_hands 41 = .ok (.ldc 165, 2) := by decide +kernel
theorem dX6_hands_43 : decode cX6_hands 43 = .ok (.iastore, 1) := by decide +kernel
theorem dX6_hands_44 : decode cX6_hands 44 = .ok (.iinc 3 1, 3) := by decide +kernel
theorem dX6_hands_47 : decode cX6_hands 47 = .ok (.goto (-26), 3) := by decide +kernel
theorem dX6_hands_50 : decode cX6_hands 50 = .ok (.iconst 0, 1) := by decide +kernel
theorem dX6_hands_51 : decode cX6_hands 51 = .ok (.istore_n 3, 1) := by decide +kernel
theorem dX6_hands_52 : decode cX6_hands 52 = .ok (.iload_n 3, 1) := by decide +kernel
theorem dX6_hands_53 : decode cX6_hands 53 = .ok (.bipush 60, 2) := by decide +kernel
theorem dX6_hands_55 : decode cX6_hands 55 = .ok (.if_icmp .ge 177, 3) := by decide +kernel
theorem dX6_hands_58 : decode cX6_hands 58 = .ok (.iconst 0, 1) := by decide +kernel
theorem dX6_hands_59 : decode cX6_hands 59 = .ok (.istore 4, 2) := by decide +kernel
theorem dX6_hands_61 : decode cX6_hands 61 = .ok (.iload 4, 2) := by decide +kernel
theorem dX6_hands_63 : decode cX6_hands 63 = .ok (.aload_n 0, 1) := by decide +kernel
theorem dX6_hands_64 : decode cX6_hands 64 = .ok (.getfield 19, 3) := by decide +kernel
theorem dX6_hands_67 : decode cX6_hands 67 = .ok (.iconst 0, 1) := by decide +kernel
theorem dX6_hands_68 : decode cX6_hands 68 = .ok (.iaload, 1) := by decide +kernel
theorem dX6_hands_69 : decode cX6_hands 69 = .ok (.if_icmp .ge 123, 3) := by decide +kernel
theorem dX6_hands_72 : decode cX6_hands 72 = .ok (.aload_n 0, 1) := by decide +kernel
theorem dX6_hands_73 : decode cX6_hands 73 = .ok (.getfield 47, 3) := by decide +kernel
theorem dX6_hands_76 : decode cX6_hands 76 = .ok (.iload 4, 2) := by decide +kernel
theorem dX6_hands_78 : decode cX6_hands 78 = .ok (.aload_n 0, 1) := by decide +kernel
theorem dX6_hands_79 : decode cX6_hands 79 = .ok (.getfield 44, 3) := by decide +kernel
theorem dX6_hands_82 : decode cX6_hands 82 = .ok (.iload 4, 2) := by decide +kernel
theorem dX6_hands_84 : decode cX6_hands 84 = .ok (.iaload, 1) := by decide +kernel
theorem dX6_hands_85 : decode cX6_hands 85 = .ok (.iastore, 1) := by decide +kernel
theorem dX6_hands_86 : decode cX6_hands 86 = .ok (.iconst 0, 1) := by decide +kernel
theorem dX6_hands_87 : decode cX6_hands 87 = .ok (.istore 5, 2) := by decide +kernel
theorem dX6_hands_89 : decode cX6_hands 89 = .ok (.iload 5, 2) := by decide +kernel
theorem dX6_hands_91 : decode cX6_hands 91 = .ok (.aload_n 0, 1) := by decide +kernel
theorem dX6_hands_92 : decode cX6_hands 92 = .ok (.getfield 19, 3) := by decide +kernel
theorem dX6_hands_95 : decode cX6_hands 95 = .ok (.iconst 0, 1) := by decide +kernel
theorem dX6_hands_96 : decode cX6_hands 96 = .ok (.iaload, 1) := by decide +kernel
theorem dX6_hands_97 : decode cX6_hands 97 = .ok (.if_icmp .ge 89, 3) := by decide +kernel
theorem dX6_hands_100 : decode cX6_hands 100 = .ok (.aload_n 0, 1) := by decide +kernel
theorem dX6_hands_101 : decode cX6_hands 101 = .ok (.getfield 44, 3) := by decide +kernel
theorem dX6_hands_104 : decode cX6_hands 104 = .ok (.iload 5, 2) := by decide +kernel
theorem dX6_hands_106 : decode cX6_hands 106 = .ok (.iaload, 1) := by decide +kernel
theorem dX6_hands_107 : decode cX6_hands 107 = .ok (.iconst 1, 1) := by decide +kernel
theorem dX6_hands_108 : decode cX6_hands 108 = .ok (.iadd, 1) := by decide +kernel
theorem dX6_hands_109 : decode cX6_hands 109 = .ok (.aload_n 0, 1) := by decide +kernel
theorem dX6_hands_110 : decode cX6_hands 110 = .ok (.getfield 47, 3) := by decide +kernel
theorem dX6_hands_113 : decode cX6_hands 113 = .ok (.iload 4, 2) := by decide +kernel
theorem dX6_hands_115 : decode cX6_hands 115 = .ok (.iaload, 1) := by decide +kernel
theorem dX6_hands_116 : decode cX6_hands 116 = .ok (.if_icmp .ge 30, 3) := by decide +kernel
theorem dX6_hands_119 : decode cX6_hands 119 = .ok (.aload_n 0, 1) := by decide +kernel
theorem dX6_hands_120 : decode cX6_hands 120 = .ok (.getfield 19, 3) := by decide +kernel
theorem dX6_hands_123 : decode cX6_hands 123 = .ok (.iload 5, 2) := by decide +kernel
theorem dX6_hands_125 : decode cX6_hands 125 = .ok (.iload 4, 2) := by decide +kernel
theorem dX6_hands_127 : decode cX6_hands 127 = .ok (.aload_n 0, 1) := by decide +kernel
theorem dX6_hands_128 : decode cX6_hands 128 = .ok (.getfield 19, 3) := by decide +kernel
theorem dX6_hands_131 : decode cX6_hands 131 = .ok (.bipush 35, 2) := by decide +kernel
theorem dX6_hands_133 : decode cX6_hands 133 = .ok (.iaload, 1) := by decide +kernel
theorem dX6_hands_134 : decode cX6_hands 134 = .ok (.iload_n 3, 1) := by decide +kernel
theorem dX6_hands_135 : decode cX6_hands 135 = .ok (.iadd, 1) := by decide +kernel
theorem dX6_hands_136 : decode cX6_hands 136 = .ok (.invokestatic 158, 3) := by decide +kernel
theorem dX6_hands_139 : decode cX6_hands 139 = .ok (.ifCond .eq 7, 3) := by decide +kernel
theorem dX6_hands_142 : decode cX6_hands 142 = .ok (.iconst 1, 1) := by decide +kernel
theorem dX6_hands_143 : decode cX6_hands 143 = .ok (.goto 4, 3) := by decide +kernel
theorem dX6_hands_146 : decode cX6_hands 146 = .ok (.iconst 0, 1) := by decide +kernel
theorem dX6_hands_147 : decode cX6_hands 147 = .ok (.istore 6, 2) := by decide +kernel
theorem dX6_hands_149 : decode cX6_hands 149 = .ok (.aload_n 0, 1) := by decide +kernel
theorem dX6_hands_150 : decode cX6_hands 150 = .ok (.getfield 47, 3) := by decide +kernel
theorem dX6_hands_153 : decode cX6_hands 153 = .ok (.iload 4, 2) := by decide +kernel
theorem dX6_hands_155 : decode cX6_hands 155 = .ok (.iload 6, 2) := by decide +kernel
theorem dX6_hands_157 : decode cX6_hands 157 = .ok (.ifCond .eq 15, 3) := by decide +kernel
theorem dX6_hands_160 : decode cX6_hands 160 = .ok (.aload_n 0, 1) := by decide +kernel
theorem dX6_hands_161 : decode cX6_hands 161 = .ok (.getfield 44, 3) := by decide +kernel
theorem dX6_hands_164 : decode cX6_hands 164 = .ok (.iload 5, 2) := by decide +kernel
theorem dX6_hands_166 : decode cX6_hands 166 = .ok (.iaload, 1) := by decide +kernel
theorem dX6_hands_167 : decode cX6_hands 167 = .ok (.iconst 1, 1) := by decide +kernel
theorem dX6_hands_168 : decode cX6_hands 168 = .ok (.iadd, 1) := by decide +kernel
theorem dX6_hands_169 : decode cX6_hands 169 = .ok (.goto 10, 3) := by decide +kernel
theorem dX6_hands_172 : decode cX6_hands 172 = .ok (.aload_n 0, 1) := by decide +kernel
theorem dX6_hands_173 : decode cX6_hands 173 = .ok (.getfield 47, 3) := by decide +kernel
theorem dX6_hands_176 : decode cX6_hands 176 = .ok (.iload 4, 2) := by decide +kernel
theorem dX6_hands_178 : decode cX6_hands 178 = .ok (.iaload, 1) := by decide +kernel
theorem dX6_hands_179 : decode cX6_hands 179 = .ok (.iastore, 1) := by decide +kernel
theorem dX6_hands_180 : decode cX6_hands 180 = .ok (.iinc 5 1, 3) := by decide +kernel
theorem dX6_hands_183 : decode cX6_hands 183 = .ok (.goto (-94), 3) := by decide +kernel
theorem dX6_hands_186 : decode cX6_hands 186 = .ok (.iinc 4 1, 3) := by decide +kernel
theorem dX6_hands_189 : decode cX6_hands 189 = .ok (.goto (-128), 3) := by decide +kernel
theorem dX6_hands_192 : decode cX6_hands 192 = .ok (.iconst 0, 1) := by decide +kernel
theorem dX6_hands_193 : decode cX6_hands 193 = .ok (.istore 4, 2) := by decide +kernel
theorem dX6_hands_195 : decode cX6_hands 195 = .ok (.iload 4, 2) := by decide +kernel
theorem dX6_hands_197 : decode cX6_hands 197 = .ok (.aload_n 0, 1) := by decide +kernel
theorem dX6_hands_198 : decode cX6_hands 198 = .ok (.getfield 19, 3) := by decide +kernel
theorem dX6_hands_201 : decode cX6_hands 201 = .ok (.iconst 0, 1) := by decide +kernel
theorem dX6_hands_202 : decode cX6_hands 202 = .ok (.iaload, 1) := by decide +kernel
theorem dX6_hands_203 : decode cX6_hands 203 = .ok (.if_icmp .ge 23, 3) := by decide +kernel
theorem dX6_hands_206 : decode cX6_hands 206 = .ok (.aload_n 0, 1) := by decide +kernel
theorem dX6_hands_207 : decode cX6_hands 207 = .ok (.getfield 44, 3) := by decide +kernel
theorem dX6_hands_210 : decode cX6_hands 210 = .ok (.iload 4, 2) := by decide +kernel
theorem dX6_hands_212 : decode cX6_hands 212 = .ok (.aload_n 0, 1) := by decide +kernel
theorem dX6_hands_213 : decode cX6_hands 213 = .ok (.getfield 47, 3) := by decide +kernel
theorem dX6_hands_216 : decode cX6_hands 216 = .ok (.iload 4, 2) := by decide +kernel
theorem dX6_hands_218 : decode cX6_hands 218 = .ok (.iaload, 1) := by decide +kernel
theorem dX6_hands_219 : decode cX6_hands 219 = .ok (.iastore, 1) := by decide +kernel
theorem dX6_hands_220 : decode cX6_hands 220 = .ok (.iinc 4 1, 3) := by decide +kernel
theorem dX6_hands_223 : decode cX6_hands 223 = .ok (.goto (-28), 3) := by decide +kernel
theorem dX6_hands_226 : decode cX6_hands 226 = .ok (.iinc 3 1, 3) := by decide +kernel
theorem dX6_hands_229 : decode cX6_hands 229 = .ok (.goto (-177), 3) := by decide +kernel
theorem dX6_hands_232 : decode cX6_hands 232 = .ok (.aload_n 0, 1) := by decide +kernel
theorem dX6_hands_233 : decode cX6_hands 233 = .ok (.getfield 44, 3) := by decide +kernel
theorem dX6_hands_236 : decode cX6_hands 236 = .ok (.iload_n 2, 1) := by decide +kernel
theorem dX6_hands_237 : decode cX6_hands 237 = .ok (.iaload, 1) := by decide +kernel
theorem dX6_hands_238 : decode cX6_hands 238 = .ok (.invokestatic 198, 3) := by decide +kernel
theorem dX6_hands_241 : decode cX6_hands 241 = .ok (.ireturn, 1) := by decide +kernel
theorem dX6_everywhere_0 : decode cX6_everywhere 0 = .ok (.aload_n 0, 1) := by decide +kernel
theorem dX6_everywhere_1 : decode cX6_everywhere 1 = .ok (.iload_n 1, 1) := by decide +kernel
theorem dX6_everywhere_2 : decode cX6_everywhere 2 = .ok (.invokevirtual 181, 3) := by decide +kernel
theorem dX6_everywhere_5 : decode cX6_everywhere 5 = .ok (.ifCond .eq 22, 3) := by decide +kernel
theorem dX6_everywhere_8 : decode cX6_everywhere 8 = .ok (.iload_n 2, 1) := by decide +kernel
theorem dX6_everywhere_9 : decode cX6_everywhere 9 = .ok (.invokestatic 191, 3) := by decide +kernel
theorem dX6_everywhere_12 : decode cX6_everywhere 12 = .ok (.ifCond .eq 15, 3) := by decide +kernel
theorem dX6_everywhere_15 : decode cX6_everywhere 15 = .ok (.aload_n 0, 1) := by decide +kernel
theorem dX6_everywhere_16 : decode cX6_everywhere 16 = .ok (.getfield 19, 3) := by decide +kernel
theorem dX6_everywhere_19 : decode cX6_everywhere 19 = .ok (.iload_n 1, 1) := by decide +kernel
theorem dX6_everywhere_20 : decode cX6_everywhere 20 = .ok (.iload_n 2, 1) := by decide +kernel
theorem dX6_everywhere_21 : decode cX6_everywhere 21 = .ok (.invokestatic 201, 3) := by decide +kernel
theorem dX6_everywhere_24 : decode cX6_everywhere 24 = .ok (.goto 5, 3) := by decide +kernel
theorem dX6_everywhere_27 : decode cX6_everywhere 27 = .ok (.ldc 67, 2) := by decide +kernel
theorem dX6_everywhere_29 : decode cX6_everywhere 29 = .ok (.ireturn, 1) := by decide +kernel
theorem dX6_layAside_0 : decode cX6_layAside 0 = .ok (.aload_n 0, 1) := by decide +kernel
theorem dX6_layAside_1 : decode cX6_layAside 1 = .ok (.getfield 19, 3) := by decide +kernel
theorem dX6_layAside_4 : decode cX6_layAside 4 = .ok (.iconst 0, 1) := by decide +kernel
theorem dX6_layAside_5 : decode cX6_layAside 5 = .ok (.aload_n 0, 1) := by decide +kernel
theorem dX6_layAside_6 : decode cX6_layAside 6 = .ok (.getfield 25, 3) := by decide +kernel
theorem dX6_layAside_9 : decode cX6_layAside 9 = .ok (.iconst 0, 1) := by decide +kernel
theorem dX6_layAside_10 : decode cX6_layAside 10 = .ok (.invokestatic 132, 3) := by decide +kernel
theorem dX6_layAside_13 : decode cX6_layAside 13 = .ok (.return_, 1) := by decide +kernel
theorem dX6_stops_0 : decode cX6_stops 0 = .ok (.aload_n 0, 1) := by decide +kernel
theorem dX6_stops_1 : decode cX6_stops 1 = .ok (.iload_n 1, 1) := by decide +kernel
theorem dX6_stops_2 : decode cX6_stops 2 = .ok (.invokevirtual 181, 3) := by decide +kernel
theorem dX6_stops_5 : decode cX6_stops 5 = .ok (.ifCond .eq 23, 3) := by decide +kernel
theorem dX6_stops_8 : decode cX6_stops 8 = .ok (.aload_n 0, 1) := by decide +kernel
theorem dX6_stops_9 : decode cX6_stops 9 = .ok (.iload_n 2, 1) := by decide +kernel
theorem dX6_stops_10 : decode cX6_stops 10 = .ok (.invokevirtual 181, 3) := by decide +kernel
theorem dX6_stops_13 : decode cX6_stops 13 = .ok (.ifCond .eq 15, 3) := by decide +kernel
theorem dX6_stops_16 : decode cX6_stops 16 = .ok (.iload_n 1, 1) := by decide +kernel
theorem dX6_stops_17 : decode cX6_stops 17 = .ok (.iload_n 2, 1) := by decide +kernel
theorem dX6_stops_18 : decode cX6_stops 18 = .ok (.if_icmp .eq 10, 3) := by decide +kernel
theorem dX6_stops_21 : decode cX6_stops 21 = .ok (.iload_n 3, 1) := by decide +kernel
theorem dX6_stops_22 : decode cX6_stops 22 = .ok (.invokestatic 191, 3) := by decide +kernel
theorem dX6_stops_25 : decode cX6_stops 25 = .ok (.ifCond .ne 6, 3) := by decide +kernel
theorem dX6_stops_28 : decode cX6_stops 28 = .ok (.ldc 67, 2) := by decide +kernel
theorem dX6_stops_30 : decode cX6_stops 30 = .ok (.ireturn, 1) := by decide +kernel
theorem dX6_stops_31 : decode cX6_stops 31 = .ok (.iconst 0, 1) := by decide +kernel
theorem dX6_stops_32 : decode cX6_stops 32 = .ok (.istore 4, 2) := by decide +kernel
theorem dX6_stops_34 : decode cX6_stops 34 = .ok (.iconst 0, 1) := by decide +kernel
theorem dX6_stops_35 : decode cX6_stops 35 = .ok (.istore 5, 2) := by decide +kernel
theorem dX6_stops_37 : decode cX6_stops 37 = .ok (.iload 5, 2) := by decide +kernel
theorem dX6_stops_39 : decode cX6_stops 39 = .ok (.aload_n 0, 1) := by decide +kernel
theorem dX6_stops_40 : decode cX6_stops 40 = .ok (.getfield 19, 3) := by decide +kernel
theorem dX6_stops_43 : decode cX6_stops 43 = .ok (.iconst 0, 1) := by decide +kernel
theorem dX6_stops_44 : decode cX6_stops 44 = .ok (.iaload, 1) := by decide +kernel
theorem dX6_stops_45 : decode cX6_stops 45 = .ok (.if_icmp .ge 78, 3) := by decide +kernel
theorem dX6_stops_48 : decode cX6_stops 48 = .ok (.aload_n 0, 1) := by decide +kernel
theorem dX6_stops_49 : decode cX6_stops 49 = .ok (.getfield 19, 3) := by decide +kernel
theorem dX6_stops_52 : decode cX6_stops 52 = .ok (.iload_n 1, 1) := by decide +kernel
theorem dX6_stops_53 : decode cX6_stops 53 = .ok (.iload_n 2, 1) := by decide +kernel
theorem dX6_stops_54 : decode cX6_stops 54 = .ok (.invokestatic 195, 3) := by decide +kernel
theorem dX6_stops_57 : decode cX6_stops 57 = .ok (.iload_n 3, 1) := by decide +kernel
theorem dX6_stops_58 : decode cX6_stops 58 = .ok (.if_icmp .gt 65, 3) := by decide +kernel
theorem dX6_stops_61 : decode cX6_stops 61 = .ok (.aload_n 0, 1) := by decide +kernel
theorem dX6_stops_62 : decode cX6_stops 62 = .ok (.invokevirtual 204, 3) := by decide +kernel
theorem dX6_stops_65 : decode cX6_stops 65 = .ok (.aload_n 0, 1) := by decide +kernel
theorem dX6_stops_66 : decode cX6_stops 66 = .ok (.getfield 25, 3) := by decide +kernel
theorem dX6_stops_69 : decode cX6_stops 69 = .ok (.bipush 34, 2) := by decide +kernel
theorem dX6_stops_71 : decode cX6_stops 71 = .ok (.dup2, 1) := by decide +kernel
theorem dX6_stops_72 : decode cX6_stops 72 = .ok (.iaload, 1) := by decide +kernel
theorem dX6_stops_73 : decode cX6_stops 73 = .ok (.iconst 1, 1) := by decide +kernel
theorem dX6_stops_74 : decode cX6_stops 74 = .ok (.iload 5, 2) := by decide +kernel
theorem dX6_stops_76 : decode cX6_stops 76 = .ok (.ishl, 1) := by decide +kernel
theorem dX6_stops_77 : decode cX6_stops 77 = .ok (.ior, 1) := by decide +kernel
theorem dX6_stops_78 : decode cX6_stops 78 = .ok (.iastore, 1) := by decide +kernel
theorem dX6_stops_79 : decode cX6_stops 79 = .ok (.iload 4, 2) := by decide +kernel
theorem dX6_stops_81 : decode cX6_stops 81 = .ok (.iload 5, 2) := by decide +kernel
theorem dX6_stops_83 : decode cX6_stops 83 = .ok (.iload_n 1, 1) := by decide +kernel
theorem dX6_stops_84 : decode cX6_stops 84 = .ok (.if_icmp .eq 29, 3) := by decide +kernel
theorem dX6_stops_87 : decode cX6_stops 87 = .ok (.iload 5, 2) := by decide +kernel
theorem dX6_stops_89 : decode cX6_stops 89 = .ok (.iload_n 2, 1) := by decide +kernel
theorem dX6_stops_90 : decode cX6_stops 90 = .ok (.if_icmp .eq 23, 3) := by decide +kernel
theorem dX6_stops_93 : decode cX6_stops 93 = .ok (.aload_n 0, 1) := by decide +kernel
theorem dX6_stops_94 : decode cX6_stops 94 = .ok (.getfield 25, 3) := by decide +kernel
theorem dX6_stops_97 : decode cX6_stops 97 = .ok (.iload_n 1, 1) := by decide +kernel
theorem dX6_stops_98 : decode cX6_stops 98 = .ok (.iload_n 2, 1) := by decide +kernel
theorem dX6_stops_99 : decode cX6_stops 99 = .ok (.invokestatic 195, 3) := by decide +kernel
theorem dX6_stops_102 : decode cX6_stops 102 = .ok (.iload_n 3, 1) := by decide +kernel
theorem dX6_stops_103 : decode cX6_stops 103 = .ok (.if_icmp .le 10, 3) := by decide +kernel
theorem dX6_stops_106 : decode cX6_stops 106 = .ok (.iconst 1, 1) := by decide +kernel
theorem dX6_stops_107 : decode cX6_stops 107 = .ok (.iload 5, 2) := by decide +kernel
theorem dX6_stops_109 : decode cX6_stops 109 = .ok (.ishl, 1) := by decide +kernel
theorem dX6_stops_110 : decode cX6_stops 110 = .ok (.goto 4, 3) := by decide +kernel
theorem dX6_stops_113 : decode cX6_stops 113 = .ok (.iconst 0, 1) := by decide +kernel
theorem dX6_stops_114 : decode cX6_stops 114 = .ok (.ior, 1) := by decide +kernel
theorem dX6_stops_115 : decode cX6_stops 115 = .ok (.istore 4, 2) := by decide +kernel
theorem dX6_stops_117 : decode cX6_stops 117 = .ok (.iinc 5 1, 3) := by decide +kernel
theorem dX6_stops_120 : decode cX6_stops 120 = .ok (.goto (-83), 3) := by decide +kernel
theorem dX6_stops_123 : decode cX6_stops 123 = .ok (.iload 4, 2) := by decide +kernel
theorem dX6_stops_125 : decode cX6_stops 125 = .ok (.ireturn, 1) := by decide +kernel
theorem dX6_toSling_0 : decode cX6_toSling 0 = .ok (.aload_n 0, 1) := by decide +kernel
theorem dX6_toSling_1 : decode cX6_toSling 1 = .ok (.iload_n 1, 1) := by decide +kernel
theorem dX6_toSling_2 : decode cX6_toSling 2 = .ok (.invokevirtual 181, 3) := by decide +kernel
theorem dX6_toSling_5 : decode cX6_toSling 5 = .ok (.ifCond .eq 23, 3) := by decide +kernel
theorem dX6_toSling_8 : decode cX6_toSling 8 = .ok (.aload_n 0, 1) := by decide +kernel
theorem dX6_toSling_9 : decode cX6_toSling 9 = .ok (.iload_n 2, 1) := by decide +kernel
theorem dX6_toSling_10 : decode cX6_toSling 10 = .ok (.invokevirtual 181, 3) := by decide +kernel
theorem dX6_toSling_13 : decode cX6_toSling 13 = .ok (.ifCond .eq 15, 3) := by decide +kernel
theorem dX6_toSling_16 : decode cX6_toSling 16 = .ok (.aload_n 0, 1) := by decide +kernel
theorem dX6_toSling_17 : decode cX6_toSling 17 = .ok (.iload_n 3, 1) := by decide +kernel
theorem dX6_toSling_18 : decode cX6_toSling 18 = .ok (.invokevirtual 181, 3) := by decide +kernel
theorem dX6_toSling_21 : decode cX6_toSling 21 = .ok (.ifCond .eq 7, 3) := by decide +kernel
theorem dX6_toSling_24 : decode cX6_toSling 24 = .ok (.iconst 1, 1) := by decide +kernel
theorem dX6_toSling_25 : decode cX6_toSling 25 = .ok (.goto 4, 3) := by decide +kernel
theorem dX6_toSling_28 : decode cX6_toSling 28 = .ok (.iconst 0, 1) := by decide +kernel
theorem dX6_toSling_29 : decode cX6_toSling 29 = .ok (.istore 5, 2) := by decide +kernel
theorem dX6_toSling_31 : decode cX6_toSling 31 = .ok (.iload 5, 2) := by decide +kernel
theorem dX6_toSling_33 : decode cX6_toSling 33 = .ok (.ifCond .eq 26, 3) := by decide +kernel
theorem dX6_toSling_36 : decode cX6_toSling 36 = .ok (.iload_n 2, 1) := by decide +kernel
theorem dX6_toSling_37 : decode cX6_toSling 37 = .ok (.iload_n 3, 1) := by decide +kernel
theorem dX6_toSling_38 : decode cX6_toSling 38 = .ok (.if_icmp .eq 21, 3) := by decide +kernel
theorem dX6_toSling_41 : decode cX6_toSling 41 = .ok (.iload_n 2, 1) := by decide +kernel
theorem dX6_toSling_42 : decode cX6_toSling 42 = .ok (.iload_n 1, 1) := by decide +kernel
theorem dX6_toSling_43 : decode cX6_toSling 43 = .ok (.if_icmp .eq 16, 3) := by decide +kernel
theorem dX6_toSling_46 : decode cX6_toSling 46 = .ok (.iload_n 3, 1) := by decide +kernel
theorem dX6_toSling_47 : decode cX6_toSling 47 = .ok (.iload_n 1, 1) := by decide +kernel
theorem dX6_toSling_48 : decode cX6_toSling 48 = .ok (.if_icmp .eq 11, 3) := by decide +kernel
theorem dX6_toSling_51 : decode cX6_toSling 51 = .ok (.iload 4, 2) := by decide +kernel
theorem dX6_toSling_53 : decode cX6_toSling 53 = .ok (.invokestatic 188, 3) := by decide +kernel
theorem dX6_toSling_56 : decode cX6_toSling 56 = .ok (.ifCond .ne 6, 3) := by decide +kernel
theorem dX6_toSling_59 : decode cX6_toSling 59 = .ok (.ldc 67, 2) := by decide +kernel
theorem dX6_toSling_61 : decode cX6_toSling 61 = .ok (.ireturn, 1) := by decide +kernel
theorem dX6_toSling_62 : decode cX6_toSling 62 = .ok (.aload_n 0, 1) := by decide +kernel
theorem dX6_toSling_63 : decode cX6_toSling 63 = .ok (.getfield 19, 3) := by decide +kernel
theorem dX6_toSling_66 : decode cX6_toSling 66 = .ok (.iload_n 2, 1) := by decide +kernel
theorem dX6_toSling_67 : decode cX6_toSling 67 = .ok (.iload_n 3, 1) := by decide +kernel
theorem dX6_toSling_68 : decode cX6_toSling 68 = .ok (.invokestatic 195, 3) := by decide +kernel
theorem dX6_toSling_71 : decode cX6_toSling 71 = .ok (.istore 6, 2) := by decide +kernel
theorem dX6_toSling_73 : decode cX6_toSling 73 = .ok (.bipush 12, 2) := by decide +kernel
theorem dX6_toSling_75 : decode cX6_toSling 75 = .ok (.aload_n 0, 1) := by decide +kernel
theorem dX6_toSling_76 : decode cX6_toSling 76 = .ok (.getfield 19, 3) := by decide +kernel
theorem dX6_toSling_79 : decode cX6_toSling 79 = .ok (.bipush 10, 2) := by decide +kernel
theorem dX6_toSling_81 : decode cX6_toSling 81 = .ok (.iload_n 1, 1) := by decide +kernel
theorem dX6_toSling_82 : decode cX6_toSling 82 = .ok (.iadd, 1) := by decide +kernel
theorem dX6_toSling_83 : decode cX6_toSling 83 = .ok (.iaload, 1) := by decide +kernel
theorem dX6_toSling_84 : decode cX6_toSling 84 = .ok (.imul, 1) := by decide +kernel
theorem dX6_toSling_85 : decode cX6_toSling 85 = .ok (.aload_n 0, 1) := by decide +kernel
theorem dX6_toSling_86 : decode cX6_toSling 86 = .ok (.getfield 19, 3) := by decide +kernel
theorem dX6_toSling_89 : decode cX6_toSling 89 = .ok (.bipush 16, 2) := by decide +kernel
theorem dX6_toSling_91 : decode cX6_toSling 91 = .ok (.iload_n 1, 1) := by decide +kernel
theorem dX6_toSling_92 : decode cX6_toSling 92 = .ok (.iadd, 1) := by decide +kernel
theorem dX6_toSling_93 : decode cX6_toSling 93 = .ok (.iaload, 1) := by decide +kernel
theorem dX6_toSling_94 : decode cX6_toSling 94 = .ok (.iadd, 1) := by decide +kernel
theorem dX6_toSling_95 : decode cX6_toSling 95 = .ok (.istore 7, 2) := by decide +kernel
theorem dX6_toSling_97 : decode cX6_toSling 97 = .ok (.iconst 0, 1) := by decide +kernel
theorem dX6_toSling_98 : decode cX6_toSling 98 = .ok (.istore 8, 2) := by decide +kernel
theorem dX6_toSling_100 : decode cX6_toSling 100 = .ok (.iload 8, 2) := by decide +kernel
theorem dX6_toSling_102 : decode cX6_toSling 102 = .ok (.sipush 144, 3) := by decide +kernel
theorem dX6_toSling_105 : decode cX6_toSling 105 = .ok (.if_icmp .ge 102, 3) := by decide +kernel
theorem dX6_toSling_108 : decode cX6_toSling 108 = .ok (.aload_n 0, 1) := by decide +kernel
theorem dX6_toSling_109 : decode cX6_toSling 109 = .ok (.invokevirtual 204, 3) := by decide +kernel
theorem dX6_toSling_112 : decode cX6_toSling 112 = .ok (.aload_n 0, 1) := by decide +kernel
theorem dX6_toSling_113 : decode cX6_toSling 113 = .ok (.getfield 25, 3) := by decide +kernel
theorem dX6_toSling_116 : decode cX6_toSling 116 = .ok (.bipush 10, 2) := by decide +kernel
theorem dX6_toSling_118 : decode cX6_toSling 118 = .ok (.iload_n 1, 1) := by decide +kernel
theorem dX6_toSling_119 : decode cX6_toSling 119 = .ok (.iadd, 1) := by decide +kernel
theorem dX6_toSling_120 : decode cX6_toSling 120 = .ok (.iload 8, 2) := by decide +kernel
theorem dX6_toSling_122 : decode cX6_toSling 122 = .ok (.bipush 12, 2) := by decide +kernel
theorem dX6_toSling_124 : decode cX6_toSling 124 = .ok (.idiv, 1) := by decide +kernel
theorem dX6_toSling_125 : decode cX6_toSling 125 = .ok (.iastore, 1) := by decide +kernel
theorem dX6_toSling_126 : decode cX6_toSling 126 = .ok (.aload_n 0, 1) := by decide +kernel
theorem dX6_toSling_127 : decode cX6_toSling 127 = .ok (.getfield 25, 3) := by decide +kernel
theorem dX6_toSling_130 : decode cX6_toSling 130 = .ok (.bipush 16, 2) := by decide +kernel
theorem dX6_toSling_132 : decode cX6_toSling 132 = .ok (.iload_n 1, 1) := by decide +kernel
theorem dX6_toSling_133 : decode cX6_toSling 133 = .ok (.iadd, 1) := by decide +kernel
theorem dX6_toSling_134 : decode cX6_toSling 134 = .ok (.iload 8, 2) := by decide +kernel
theorem dX6_toSling_136 : decode cX6_toSling 136 = .ok (.bipush 12, 2) := by decide +kernel
theorem dX6_toSling_138 : decode cX6_toSling 138 = .ok (.irem, 1) := by decide +kernel
theorem dX6_toSling_139 : decode cX6_toSling 139 = .ok (.iastore, 1) := by decide +kernel
theorem dX6_toSling_140 : decode cX6_toSling 140 = .ok (.iload 8, 2) := by decide +kernel
theorem dX6_toSling_142 : decode cX6_toSling 142 = .ok (.bipush 12, 2) := by decide +kernel
theorem dX6_toSling_144 : decode cX6_toSling 144 = .ok (.idiv, 1) := by decide +kernel
theorem dX6_toSling_145 : decode cX6_toSling 145 = .ok (.iload 8, 2) := by decide +kernel
theorem dX6_toSling_147 : decode cX6_toSling 147 = .ok (.bipush 12, 2) := by decide +kernel
theorem dX6_toSling_149 : decode cX6_toSling 149 = .ok (.irem, 1) := by decide +kernel
theorem dX6_toSling_150 : decode cX6_toSling 150 = .ok (.if_icmp .ge 15, 3) := by decide +kernel
theorem dX6_toSling_153 : decode cX6_toSling 153 = .ok (.aload_n 0, 1) := by decide +kernel
theorem dX6_toSling_154 : decode cX6_toSling 154 = .ok (.getfield 25, 3) := by decide +kernel
theorem dX6_toSling_157 : decode cX6_toSling 157 = .ok (.iload_n 2, 1) := by decide +kernel
theorem dX6_toSling_158 : decode cX6_toSling 158 = .ok (.iload_n 3, 1) := by decide +kernel
theorem dX6_toSling_159 : decode cX6_toSling 159 = .ok (.invokestatic 195, 3) := by decide +kernel
theorem dX6_toSling_162 : decode cX6_toSling 162 = .ok (.goto 5, 3) := by decide +kernel
theorem dX6_toSling_165 : decode cX6_toSling 165 = .ok (.ldc 165, 2) := by decide +kernel
theorem dX6_toSling_167 : decode cX6_toSling 167 = .ok (.istore 9, 2) := by decide +kernel
theorem dX6_toSling_169 : decode cX6_toSling 169 = .ok (.iload 9, 2) := by decide +kernel
theorem dX6_toSling_171 : decode cX6_toSling 171 = .ok (.iload 6, 2) := by decide +kernel
theorem dX6_toSling_173 : decode cX6_toSling 173 = .ok (.if_icmp .ge 8, 3) := by decide +kernel
theorem dX6_toSling_176 : decode cX6_toSling 176 = .ok (.iload 8, 2) := by decide +kernel
theorem dX6_toSling_178 : decode cX6_toSling 178 = .ok (.goto 5, 3) := by decide +kernel
theorem dX6_toSling_181 : decode cX6_toSling 181 = .ok (.iload 7, 2) := by decide +kernel
theorem dX6_toSling_183 : decode cX6_toSling 183 = .ok (.istore 7, 2) := by decide +kernel
theorem dX6_toSling_185 : decode cX6_toSling 185 = .ok (.iload 9, 2) := by decide +kernel
theorem dX6_toSling_187 : decode cX6_toSling 187 = .ok (.iload 6, 2) := by decide +kernel
theorem dX6_toSling_189 : decode cX6_toSling 189 = .ok (.if_icmp .ge 8, 3) := by decide +kernel
theorem dX6_toSling_192 : decode cX6_toSling 192 = .ok (.iload 9, 2) := by decide +kernel
theorem dX6_toSling_194 : decode cX6_toSling 194 = .ok (.goto 5, 3) := by decide +kernel
theorem dX6_toSling_197 : decode cX6_toSling 197 = .ok (.iload 6, 2) := by decide +kernel
theorem dX6_toSling_199 : decode cX6_toSling 199 = .ok (.istore 6, 2) := by decide +kernel
theorem dX6_toSling_201 : decode cX6_toSling 201 = .ok (.iinc 8 1, 3) := by decide +kernel
theorem dX6_toSling_204 : decode cX6_toSling 204 = .ok (.goto (-104), 3) := by decide +kernel
theorem dX6_toSling_207 : decode cX6_toSling 207 = .ok (.iload 6, 2) := by decide +kernel
theorem dX6_toSling_209 : decode cX6_toSling 209 = .ok (.ldc 165, 2) := by decide +kernel
theorem dX6_toSling_211 : decode cX6_toSling 211 = .ok (.if_icmp .ne 8, 3) := by decide +kernel
theorem dX6_toSling_214 : decode cX6_toSling 214 = .ok (.ldc 194, 2) := by decide +kernel
theorem dX6_toSling_216 : decode cX6_toSling 216 = .ok (.goto 15, 3) := by decide +kernel
theorem dX6_toSling_219 : decode cX6_toSling 219 = .ok (.iload 4, 2) := by decide +kernel
theorem dX6_toSling_221 : decode cX6_toSling 221 = .ok (.ifCond .ne 8, 3) := by decide +kernel
theorem dX6_toSling_224 : decode cX6_toSling 224 = .ok (.iload 7, 2) := by decide +kernel
theorem dX6_toSling_226 : decode cX6_toSling 226 = .ok (.goto 5, 3) := by decide +kernel
theorem dX6_toSling_229 : decode cX6_toSling 229 = .ok (.iload 6, 2) := by decide +kernel
theorem dX6_toSling_231 : decode cX6_toSling 231 = .ok (.ireturn, 1) := by decide +kernel
theorem dX6_fits_0 : decode cX6_fits 0 = .ok (.aload_n 0, 1) := by decide +kernel
theorem dX6_fits_1 : decode cX6_fits 1 = .ok (.iload_n 1, 1) := by decide +kernel
theorem dX6_fits_2 : decode cX6_fits 2 = .ok (.invokevirtual 181, 3) := by decide +kernel
theorem dX6_fits_5 : decode cX6_fits 5 = .ok (.ifCond .eq 36, 3) := by decide +kernel
theorem dX6_fits_8 : decode cX6_fits 8 = .ok (.iload_n 2, 1) := by decide +kernel
theorem dX6_fits_9 : decode cX6_fits 9 = .ok (.invokestatic 61, 3) := by decide +kernel
theorem dX6_fits_12 : decode cX6_fits 12 = .ok (.ifCond .eq 29, 3) := by decide +kernel
theorem dX6_fits_15 : decode cX6_fits 15 = .ok (.iload 4, 2) := by decide +kernel
theorem dX6_fits_17 : decode cX6_fits 17 = .ok (.i2l, 1) := by decide +kernel
theorem dX6_fits_18 : decode cX6_fits 18 = .ok (.lconst 1, 1) := by decide +kernel
theorem dX6_fits_19 : decode cX6_fits 19 = .ok (.ldc2_w 207, 3) := by decide +kernel
theorem dX6_fits_22 : decode cX6_fits 22 = .ok (.invokestatic 57, 3) := by decide +kernel
theorem dX6_fits_25 : decode cX6_fits 25 = .ok (.ifCond .eq 16, 3) := by decide +kernel
theorem dX6_fits_28 : decode cX6_fits 28 = .ok (.iload 5, 2) := by decide +kernel
theorem dX6_fits_30 : decode cX6_fits 30 = .ok (.i2l, 1) := by decide +kernel
theorem dX6_fits_31 : decode cX6_fits 31 = .ok (.lconst 0, 1) := by decide +kernel
theorem dX6_fits_32 : decode cX6_fits 32 = .ok (.ldc2_w 65, 3) := by decide +kernel
theorem dX6_fits_35 : decode cX6_fits 35 = .ok (.invokestatic 57, 3) := by decide +kernel
theorem dX6_fits_38 : decode cX6_fits 38 = .ok (.ifCond .ne 6, 3) := by decide +kernel
theorem dX6_fits_41 : decode cX6_fits 41 = .ok (.ldc 67, 2) := by decide +kernel
theorem dX6_fits_43 : decode cX6_fits 43 = .ok (.ireturn, 1) := by decide +kernel
theorem dX6_fits_44 : decode cX6_fits 44 = .ok (.aload_n 0, 1) := by decide +kernel
theorem dX6_fits_45 : decode cX6_fits 45 = .ok (.getfield 13, 3) := by decide +kernel
theorem dX6_fits_48 : decode cX6_fits 48 = .ok (.iload_n 2, 1) := by decide +kernel
theorem dX6_fits_49 : decode cX6_fits 49 = .ok (.iaload, 1) := by decide +kernel
theorem dX6_fits_50 : decode cX6_fits 50 = .ok (.ifCond .ge 9, 3) := by decide +kernel
theorem dX6_fits_53 : decode cX6_fits 53 = .ok (.aload_n 0, 1) := by decide +kernel
theorem dX6_fits_54 : decode cX6_fits 54 = .ok (.iconst 1, 1) := by decide +kernel
theorem dX6_fits_55 : decode cX6_fits 55 = .ok (.invokevirtual 68, 3) := by decide +kernel
theorem dX6_fits_58 : decode cX6_fits 58 = .ok (.ireturn, 1) := by decide +kernel
theorem dX6_fits_59 : decode cX6_fits 59 = .ok (.iload_n 3, 1) := by decide +kernel
theorem dX6_fits_60 : decode cX6_fits 60 = .ok (.ifCond .lt 20, 3) := by decide +kernel
theorem dX6_fits_63 : decode cX6_fits 63 = .ok (.iload_n 3, 1) := by decide +kernel
theorem dX6_fits_64 : decode cX6_fits 64 = .ok (.i2l, 1) := by decide +kernel
theorem dX6_fits_65 : decode cX6_fits 65 = .ok (.iload 4, 2) := by decide +kernel
theorem dX6_fits_67 : decode cX6_fits 67 = .ok (.i2l, 1) := by decide +kernel
theorem dX6_fits_68 : decode cX6_fits 68 = .ok (.ladd, 1) := by decide +kernel
theorem dX6_fits_69 : decode cX6_fits 69 = .ok (.aload_n 0, 1) := by decide +kernel
theorem dX6_fits_70 : decode cX6_fits 70 = .ok (.getfield 13, 3) := by decide +kernel
theorem dX6_fits_73 : decode cX6_fits 73 = .ok (.iload_n 2, 1) := by decide +kernel
theorem dX6_fits_74 : decode cX6_fits 74 = .ok (.iaload, 1) := by decide +kernel
theorem dX6_fits_75 : decode cX6_fits 75 = .ok (.i2l, 1) := by decide +kernel
theorem dX6_fits_76 : decode cX6_fits 76 = .ok (.lcmp, 1) := by decide +kernel
theorem dX6_fits_77 : decode cX6_fits 77 = .ok (.ifCond .le 9, 3) := by decide +kernel
theorem dX6_fits_80 : decode cX6_fits 80 = .ok (.aload_n 0, 1) := by decide +kernel
theorem dX6_fits_81 : decode cX6_fits 81 = .ok (.iconst 2, 1) := by decide +kernel
theorem dX6_fits_82 : decode cX6_fits 82 = .ok (.invokevirtual 68, 3) := by decide +kernel
theorem dX6_fits_85 : decode cX6_fits 85 = .ok (.ireturn, 1) := by decide +kernel
theorem dX6_fits_86 : decode cX6_fits 86 = .ok (.iconst 0, 1) := by decide +kernel
theorem dX6_fits_87 : decode cX6_fits 87 = .ok (.istore 6, 2) := by decide +kernel
theorem dX6_fits_89 : decode cX6_fits 89 = .ok (.iload 5, 2) := by decide +kernel
theorem dX6_fits_91 : decode cX6_fits 91 = .ok (.iconst 1, 1) := by decide +kernel
theorem dX6_fits_92 : decode cX6_fits 92 = .ok (.if_icmp .ne 7, 3) := by decide +kernel
theorem dX6_fits_95 : decode cX6_fits 95 = .ok (.iconst 0, 1) := by decide +kernel
theorem dX6_fits_96 : decode cX6_fits 96 = .ok (.goto 4, 3) := by decide +kernel
theorem dX6_fits_99 : decode cX6_fits 99 = .ok (.iconst 1, 1) := by decide +kernel
theorem dX6_fits_100 : decode cX6_fits 100 = .ok (.istore 7, 2) := by decide +kernel
theorem dX6_fits_102 : decode cX6_fits 102 = .ok (.iload 5, 2) := by decide +kernel
theorem dX6_fits_104 : decode cX6_fits 104 = .ok (.ifCond .ne 7, 3) := by decide +kernel
theorem dX6_fits_107 : decode cX6_fits 107 = .ok (.iconst 5, 1) := by decide +kernel
theorem dX6_fits_108 : decode cX6_fits 108 = .ok (.goto 15, 3) := by decide +kernel
theorem dX6_fits_111 : decode cX6_fits 111 = .ok (.iload 5, 2) := by decide +kernel
theorem dX6_fits_113 : decode cX6_fits 113 = .ok (.iconst 1, 1) := by decide +kernel
theorem dX6_fits_114 : decode cX6_fits 114 = .ok (.if_icmp .ne 7, 3) := by decide +kernel
theorem dX6_fits_117 : decode cX6_fits 117 = .ok (.iconst 5, 1) := by decide +kernel
theorem dX6_fits_118 : decode cX6_fits 118 = .ok (.goto 5, 3) := by decide +kernel
theorem dX6_fits_121 : decode cX6_fits 121 = .ok (.bipush 20, 2) := by decide +kernel
theorem dX6_fits_123 : decode cX6_fits 123 = .ok (.istore 8, 2) := by decide +kernel
theorem dX6_fits_125 : decode cX6_fits 125 = .ok (.iload 5, 2) := by decide +kernel
theorem dX6_fits_127 : decode cX6_fits 127 = .ok (.ifCond .ne 7, 3) := by decide +kernel
theorem dX6_fits_130 : decode cX6_fits 130 = .ok (.iconst 4, 1) := by decide +kernel
theorem dX6_fits_131 : decode cX6_fits 131 = .ok (.goto 16, 3) := by decide +kernel
theorem dX6_fits_134 : decode cX6_fits 134 = .ok (.iload 5, 2) := by decide +kernel
theorem dX6_fits_136 : decode cX6_fits 136 = .ok (.iconst 1, 1) := by decide +kernel
theorem dX6_fits_137 : decode cX6_fits 137 = .ok (.if_icmp .ne 8, 3) := by decide +kernel
theorem dX6_fits_140 : decode cX6_fits 140 = .ok (.bipush 28, 2) := by decide +kernel
theorem dX6_fits_142 : decode cX6_fits 142 = .ok (.goto 5, 3) := by decide +kernel
theorem dX6_fits_145 : decode cX6_fits 145 = .ok (.bipush 22, 2) := by decide +kernel
theorem dX6_fits_147 : decode cX6_fits 147 = .ok (.istore 9, 2) := by decide +kernel
theorem dX6_fits_149 : decode cX6_fits 149 = .ok (.iload 7, 2) := by decide +kernel
theorem dX6_fits_151 : decode cX6_fits 151 = .ok (.istore 10, 2) := by decide +kernel
theorem dX6_fits_153 : decode cX6_fits 153 = .ok (.iload 10, 2) := by decide +kernel
theorem dX6_fits_155 : decode cX6_fits 155 = .ok (.iload 8, 2) := by decide +kernel
theorem dX6_fits_157 : decode cX6_fits 157 = .ok (.if_icmp .gt 131, 3) := by decide +kernel
theorem dX6_fits_160 : decode cX6_fits 160 = .ok (.aload_n 0, 1) := by decide +kernel
theorem dX6_fits_161 : decode cX6_fits 161 = .ok (.invokevirtual 204, 3) := by decide +kernel
theorem dX6_fits_164 : decode cX6_fits 164 = .ok (.aload_n 0, 1) := by decide +kernel
theorem dX6_fits_165 : decode cX6_fits 165 = .ok (.getfield 25, 3) := by decide +kernel
theorem dX6_fits_168 : decode cX6_fits 168 = .ok (.iload 9, 2) := by decide +kernel
theorem dX6_fits_170 : decode cX6_fits 170 = .ok (.iload_n 1, 1) := by decide +kernel
theorem dX6_fits_171 : decode cX6_fits 171 = .ok (.iadd, 1) := by decide +kernel
theorem dX6_fits_172 : decode cX6_fits 172 = .ok (.iload 10, 2) := by decide +kernel
theorem dX6_fits_174 : decode cX6_fits 174 = .ok (.iastore, 1) := by decide +kernel
theorem dX6_fits_175 : decode cX6_fits 175 = .ok (.iconst 1, 1) := by decide +kernel
theorem dX6_fits_176 : decode cX6_fits 176 = .ok (.istore 11, 2) := by decide +kernel
theorem dX6_fits_178 : decode cX6_fits 178 = .ok (.iconst 0, 1) := by decide +kernel
theorem dX6_fits_179 : decode cX6_fits 179 = .ok (.istore 12, 2) := by decide +kernel
theorem dX6_fits_181 : decode cX6_fits 181 = .ok (.iload 12, 2) := by decide +kernel
theorem dX6_fits_183 : decode cX6_fits 183 = .ok (.iload 4, 2) := by decide +kernel
theorem dX6_fits_185 : decode cX6_fits 185 = .ok (.if_icmp .ge 79, 3) := by decide +kernel
theorem dX6_fits_188 : decode cX6_fits 188 = .ok (.aload_n 0, 1) := by decide +kernel
theorem dX6_fits_189 : decode cX6_fits 189 = .ok (.getfield 19, 3) := by decide +kernel
theorem dX6_fits_192 : decode cX6_fits 192 = .ok (.bipush 35, 2) := by decide +kernel
theorem dX6_fits_194 : decode cX6_fits 194 = .ok (.iaload, 1) := by decide +kernel
theorem dX6_fits_195 : decode cX6_fits 195 = .ok (.iload 12, 2) := by decide +kernel
theorem dX6_fits_197 : decode cX6_fits 197 = .ok (.iadd, 1) := by decide +kernel
theorem dX6_fits_198 : decode cX6_fits 198 = .ok (.istore 13, 2) := by decide +kernel
theorem dX6_fits_200 : decode cX6_fits 200 = .ok (.iload 11, 2) := by decide +kernel
theorem dX6_fits_202 : decode cX6_fits 202 = .ok (.ifCond .eq 53, 3) := by decide +kernel
theorem dX6_fits_205 : decode cX6_fits 205 = .ok (.aload_n 0, 1) := by decide +kernel
theorem dX6_fits_206 : decode cX6_fits 206 = .ok (.getfield 16, 3) := by decide +kernel
theorem dX6_fits_209 : decode cX6_fits 209 = .ok (.bipush 40, 2) := by decide +kernel
theorem dX6_fits_211 : decode cX6_fits 211 = .ok (.iload_n 2, 1) := by decide +kernel
theorem dX6_fits_212 : decode cX6_fits 212 = .ok (.imul, 1) := by decide +kernel
theorem dX6_fits_213 : decode cX6_fits 213 = .ok (.iload_n 3, 1) := by decide +kernel
theorem dX6_fits_214 : decode cX6_fits 214 = .ok (.iadd, 1) := by decide +kernel
theorem dX6_fits_215 : decode cX6_fits 215 = .ok (.iload 12, 2) := by decide +kernel
theorem dX6_fits_217 : decode cX6_fits 217 = .ok (.iadd, 1) := by decide +kernel
theorem dX6_fits_218 : decode cX6_fits 218 = .ok (.iaload, 1) := by decide +kernel
theorem dX6_fits_219 : decode cX6_fits 219 = .ok (.iload 5, 2) := by decide +kernel
theorem dX6_fits_221 : decode cX6_fits 221 = .ok (.iconst 2, 1) := by decide +kernel
theorem dX6_fits_222 : decode cX6_fits 222 = .ok (.if_icmp .ne 16, 3) := by decide +kernel
theorem dX6_fits_225 : decode cX6_fits 225 = .ok (.aload_n 0, 1) := by decide +kernel
theorem dX6_fits_226 : decode cX6_fits 226 = .ok (.getfield 25, 3) := by decide +kernel
theorem dX6_fits_229 : decode cX6_fits 229 = .ok (.iload_n 1, 1) := by decide +kernel
theorem dX6_fits_230 : decode cX6_fits 230 = .ok (.iload 13, 2) := by decide +kernel
theorem dX6_fits_232 : decode cX6_fits 232 = .ok (.invokestatic 162, 3) := by decide +kernel
theorem dX6_fits_235 : decode cX6_fits 235 = .ok (.goto 13, 3) := by decide +kernel
theorem dX6_fits_238 : decode cX6_fits 238 = .ok (.aload_n 0, 1) := by decide +kernel
theorem dX6_fits_239 : decode cX6_fits 239 = .ok (.getfield 25, 3) := by decide +kernel
theorem dX6_fits_242 : decode cX6_fits 242 = .ok (.iload_n 1, 1) := by decide +kernel
theorem dX6_fits_243 : decode cX6_fits 243 = .ok (.iload 13, 2) := by decide +kernel
theorem dX6_fits_245 : decode cX6_fits 245 = .ok (.invokestatic 155, 3) := by decide +kernel
theorem dX6_fits_248 : decode cX6_fits 248 = .ok (.if_icmp .ne 7, 3) := by decide +kernel
theorem dX6_fits_251 : decode cX6_fits 251 = .ok (.iconst 1, 1) := by decide +kernel
theorem dX6_fits_252 : decode cX6_fits 252 = .ok (.goto 4, 3) := by decide +kernel
theorem dX6_fits_255 : decode cX6_fits 255 = .ok (.iconst 0, 1) := by decide +kernel
theorem dX6_fits_256 : decode cX6_fits 256 = .ok (.istore 11, 2) := by decide +kernel
theorem dX6_fits_258 : decode cX6_fits 258 = .ok (.iinc 12 1, 3) := by decide +kernel
theorem dX6_fits_261 : decode cX6_fits 261 = .ok (.goto (-80), 3) := by decide +kernel
theorem dX6_fits_264 : decode cX6_fits 264 = .ok (.iload 6, 2) := by decide +kernel
theorem dX6_fits_266 : decode cX6_fits 266 = .ok (.iload 11, 2) := by decide +kernel
theorem dX6_fits_268 : decode cX6_fits 268 = .ok (.ifCond .eq 10, 3) := by decide +kernel
theorem dX6_fits_271 : decode cX6_fits 271 = .ok (.iconst 1, 1) := by decide +kernel
theorem dX6_fits_272 : decode cX6_fits 272 = .ok (.iload 10, 2) := by decide +kernel
theorem dX6_fits_274 : decode cX6_fits 274 = .ok (.ishl, 1) := by decide +kernel
theorem dX6_fits_275 : decode cX6_fits 275 = .ok (.goto 4, 3) := by decide +kernel
theorem dX6_fits_278 : decode cX6_fits 278 = .ok (.iconst 0, 1) := by decide +kernel
theorem dX6_fits_279 : decode cX6_fits 279 = .ok (.ior, 1) := by decide +kernel
theorem dX6_fits_280 : decode cX6_fits 280 = .ok (.istore 6, 2) := by decide +kernel
theorem dX6_fits_282 : decode cX6_fits 282 = .ok (.iinc 10 1, 3) := by decide +kernel
theorem dX6_fits_285 : decode cX6_fits 285 = .ok (.goto (-132), 3) := by decide +kernel
theorem dX6_fits_288 : decode cX6_fits 288 = .ok (.aload_n 0, 1) := by decide +kernel
theorem dX6_fits_289 : decode cX6_fits 289 = .ok (.iload 6, 2) := by decide +kernel
theorem dX6_fits_291 : decode cX6_fits 291 = .ok (.invokevirtual 72, 3) := by decide +kernel
theorem dX6_fits_294 : decode cX6_fits 294 = .ok (.ireturn, 1) := by decide +kernel
theorem dX6_breaks_0 : decode cX6_breaks 0 = .ok (.aload_n 0, 1) := by decide +kernel
theorem dX6_breaks_1 : decode cX6_breaks 1 = .ok (.iload_n 1, 1) := by decide +kernel
theorem dX6_breaks_2 : decode cX6_breaks 2 = .ok (.invokevirtual 181, 3) := by decide +kernel
theorem dX6_breaks_5 : decode cX6_breaks 5 = .ok (.ifCond .eq 39, 3) := by decide +kernel
theorem dX6_breaks_8 : decode cX6_breaks 8 = .ok (.aload_n 0, 1) := by decide +kernel
theorem dX6_breaks_9 : decode cX6_breaks 9 = .ok (.iload_n 2, 1) := by decide +kernel
theorem dX6_breaks_10 : decode cX6_breaks 10 = .ok (.invokevirtual 181, 3) := by decide +kernel
theorem dX6_breaks_13 : decode cX6_breaks 13 = .ok (.ifCond .eq 31, 3) := by decide +kernel
theorem dX6_breaks_16 : decode cX6_breaks 16 = .ok (.iload_n 3, 1) := by decide +kernel
theorem dX6_breaks_17 : decode cX6_breaks 17 = .ok (.invokestatic 191, 3) := by decide +kernel
theorem dX6_breaks_20 : decode cX6_breaks 20 = .ok (.ifCond .eq 24, 3) := by decide +kernel
theorem dX6_breaks_23 : decode cX6_breaks 23 = .ok (.iload 4, 2) := by decide +kernel
theorem dX6_breaks_25 : decode cX6_breaks 25 = .ok (.i2l, 1) := by decide +kernel
theorem dX6_breaks_26 : decode cX6_breaks 26 = .ok (.lconst 0, 1) := by decide +kernel
theorem dX6_breaks_27 : decode cX6_breaks 27 = .ok (.ldc2_w 209, 3) := by decide +kernel
theorem dX6_breaks_30 : decode cX6_breaks 30 = .ok (.invokestatic 57, 3) := by decide +kernel
theorem dX6_breaks_33 : decode cX6_breaks 33 = .ok (.ifCond .eq 11, 3) := by decide +kernel
theorem dX6_breaks_36 : decode cX6_breaks 36 = .ok (.iload 5, 2) := by decide +kernel
theorem dX6_breaks_38 : decode cX6_breaks 38 = .ok (.invokestatic 188, 3) := by decide +kernel
theorem dX6_breaks_41 : decode cX6_breaks 41 = .ok (.ifCond .ne 6, 3) := by decide +kernel
theorem dX6_breaks_44 : decode cX6_breaks 44 = .ok (.ldc 67, 2) := by decide +kernel
theorem dX6_breaks_46 : decode cX6_breaks 46 = .ok (.ireturn, 1) := by decide +kernel
theorem dX6_breaks_47 : decode cX6_breaks 47 = .ok (.lconst 0, 1) := by decide +kernel
theorem dX6_breaks_48 : decode cX6_breaks 48 = .ok (.lstore 6, 2) := by decide +kernel
theorem dX6_breaks_50 : decode cX6_breaks 50 = .ok (.lconst 1, 1) := by decide +kernel
theorem dX6_breaks_51 : decode cX6_breaks 51 = .ok (.lstore 8, 2) := by decide +kernel
theorem dX6_breaks_53 : decode cX6_breaks 53 = .ok (.iconst 0, 1) := by decide +kernel
theorem dX6_breaks_54 : decode cX6_breaks 54 = .ok (.istore 10, 2) := by decide +kernel
theorem dX6_breaks_56 : decode cX6_breaks 56 = .ok (.iload 10, 2) := by decide +kernel
theorem dX6_breaks_58 : decode cX6_breaks 58 = .ok (.aload_n 0, 1) := by decide +kernel
theorem dX6_breaks_59 : decode cX6_breaks 59 = .ok (.getfield 19, 3) := by decide +kernel
theorem dX6_breaks_62 : decode cX6_breaks 62 = .ok (.iconst 0, 1) := by decide +kernel
theorem dX6_breaks_63 : decode cX6_breaks 63 = .ok (.iaload, 1) := by decide +kernel
theorem dX6_breaks_64 : decode cX6_breaks 64 = .ok (.if_icmp .ge 36, 3) := by decide +kernel
theorem dX6_breaks_67 : decode cX6_breaks 67 = .ok (.lload 8, 2) := by decide +kernel
theorem dX6_breaks_69 : decode cX6_breaks 69 = .ok (.aload_n 0, 1) := by decide +kernel
theorem dX6_breaks_70 : decode cX6_breaks 70 = .ok (.getfield 19, 3) := by decide +kernel
theorem dX6_breaks_73 : decode cX6_breaks 73 = .ok (.bipush 34, 2) := by decide +kernel
theorem dX6_breaks_75 : decode cX6_breaks 75 = .ok (.iaload, 1) := by decide +kernel
theorem dX6_breaks_76 : decode cX6_breaks 76 = .ok (.iload 10, 2) := by decide +kernel
theorem dX6_breaks_78 : decode cX6_breaks 78 = .ok (.invokestatic 143, 3) := by decide +kernel
theorem dX6_breaks_81 : decode cX6_breaks 81 = .ok (.ifCond .eq 7, 3) := by decide +kernel
theorem dX6_breaks_84 : decode cX6_breaks 84 = .ok (.lconst 1, 1) := by decide +kernel
theorem dX6_breaks_85 : decode cX6_breaks 85 = .ok (.goto 6, 3) := by decide +kernel
theorem dX6_breaks_88 : decode cX6_breaks 88 = .ok (.ldc2_w 209, 3) := by decide +kernel
theorem dX6_breaks_91 : decode cX6_breaks 91 = .ok (.lmul, 1) := by decide +kernel
theorem dX6_breaks_92 : decode cX6_breaks 92 = .ok (.lstore 8, 2) := by decide +kernel
theorem dX6_breaks_94 : decode cX6_breaks 94 = .ok (.iinc 10 1, 3) := by decide +kernel
theorem dX6_breaks_97 : decode cX6_breaks 97 = .ok (.goto (-41), 3) := by decide +kernel
theorem dX6_breaks_100 : decode cX6_breaks 100 = .ok (.iconst 0, 1) := by decide +kernel
theorem dX6_breaks_101 : decode cX6_breaks 101 = .ok (.istore 10, 2) := by decide +kernel
theorem dX6_breaks_103 : decode cX6_breaks 103 = .ok (.iload 10, 2) := by decide +kernel
theorem dX6_breaks_105 : decode cX6_breaks 105 = .ok (.iconst 1, 1) := by decide +kernel
theorem dX6_breaks_106 : decode cX6_breaks 106 = .ok (.aload_n 0, 1) := by decide +kernel
theorem dX6_breaks_107 : decode cX6_breaks 107 = .ok (.getfield 19, 3) := by decide +kernel
theorem dX6_breaks_110 : decode cX6_breaks 110 = .ok (.iconst 0, 1) := by decide +kernel
theorem dX6_breaks_111 : decode cX6_breaks 111 = .ok (.iaload, 1) := by decide +kernel
theorem dX6_breaks_112 : decode cX6_breaks 112 = .ok (.ishl, 1) := by decide +kernel
theorem dX6_breaks_113 : decode cX6_breaks 113 = .ok (.if_icmp .ge 131, 3) := by decide +kernel
theorem dX6_breaks_116 : decode cX6_breaks 116 = .ok (.iload 10, 2) := by decide +kernel
theorem dX6_breaks_118 : decode cX6_breaks 118 = .ok (.aload_n 0, 1) := by decide +kernel
theorem dX6_breaks_119 : decode cX6_breaks 119 = .ok (.getfield 19, 3) := by decide +kernel
theorem dX6_breaks_122 : decode cX6_breaks 122 = .ok (.bipush 34, 2) := by decide +kernel
theorem dX6_breaks_124 : decode cX6_breaks 124 = .ok (.iaload, 1) := by decide +kernel
theorem dX6_breaks_125 : decode cX6_breaks 125 = .ok (.iand, 1) := by decide +kernel
theorem dX6_breaks_126 : decode cX6_breaks 126 = .ok (.ifCond .ne 112, 3) := by decide +kernel
theorem dX6_breaks_129 : decode cX6_breaks 129 = .ok (.aload_n 0, 1) := by decide +kernel
theorem dX6_breaks_130 : decode cX6_breaks 130 = .ok (.invokevirtual 204, 3) := by decide +kernel
theorem dX6_breaks_133 : decode cX6_breaks 133 = .ok (.aload_n 0, 1) := by decide +kernel
theorem dX6_breaks_134 : decode cX6_breaks 134 = .ok (.getfield 25, 3) := by decide +kernel
theorem dX6_breaks_137 : decode cX6_breaks 137 = .ok (.bipush 34, 2) := by decide +kernel
theorem dX6_breaks_139 : decode cX6_breaks 139 = .ok (.dup2, 1) := by decide +kernel
theorem dX6_breaks_140 : decode cX6_breaks 140 = .ok (.iaload, 1) := by decide +kernel
theorem dX6_breaks_141 : decode cX6_breaks 141 = .ok (.iload 10, 2) := by decide +kernel
theorem dX6_breaks_143 : decode cX6_breaks 143 = .ok (.ior, 1) := by decide +kernel
theorem dX6_breaks_144 : decode cX6_breaks 144 = .ok (.iastore, 1) := by decide +kernel
theorem dX6_breaks_145 : decode cX6_breaks 145 = .ok (.lconst 1, 1) := by decide +kernel
theorem dX6_breaks_146 : decode cX6_breaks 146 = .ok (.lstore 11, 2) := by decide +kernel
theorem dX6_breaks_148 : decode cX6_breaks 148 = .ok (.iconst 0, 1) := by decide +kernel
theorem dX6_breaks_149 : decode cX6_breaks 149 = .ok (.istore 13, 2) := by decide +kernel
theorem dX6_breaks_151 : decode cX6_breaks 151 = .ok (.iload 13, 2) := by decide +kernel
theorem dX6_breaks_153 : decode cX6_breaks 153 = .ok (.aload_n 0, 1) := by decide +kernel
theorem dX6_breaks_154 : decode cX6_breaks 154 = .ok (.getfield 19, 3) := by decide +kernel
theorem dX6_breaks_157 : decode cX6_breaks 157 = .ok (.iconst 0, 1) := by decide +kernel
theorem dX6_breaks_158 : decode cX6_breaks 158 = .ok (.iaload, 1) := by decide +kernel
theorem dX6_breaks_159 : decode cX6_breaks 159 = .ok (.if_icmp .ge 55, 3) := by decide +kernel
theorem dX6_breaks_162 : decode cX6_breaks 162 = .ok (.lload 11, 2) := by decide +kernel
theorem dX6_breaks_164 : decode cX6_breaks 164 = .ok (.aload_n 0, 1) := by decide +kernel
theorem dX6_breaks_165 : decode cX6_breaks 165 = .ok (.getfield 19, 3) := by decide +kernel
theorem dX6_breaks_168 : decode cX6_breaks 168 = .ok (.bipush 34, 2) := by decide +kernel
theorem dX6_breaks_170 : decode cX6_breaks 170 = .ok (.iaload, 1) := by decide +kernel
theorem dX6_breaks_171 : decode cX6_breaks 171 = .ok (.iload 13, 2) := by decide +kernel
theorem dX6_breaks_173 : decode cX6_breaks 173 = .ok (.invokestatic 143, 3) := by decide +kernel
theorem dX6_breaks_176 : decode cX6_breaks 176 = .ok (.ifCond .eq 7, 3) := by decide +kernel
theorem dX6_breaks_179 : decode cX6_breaks 179 = .ok (.lconst 1, 1) := by decide +kernel
theorem dX6_breaks_180 : decode cX6_breaks 180 = .ok (.goto 25, 3) := by decide +kernel
theorem dX6_breaks_183 : decode cX6_breaks 183 = .ok (.iload 10, 2) := by decide +kernel
theorem dX6_breaks_185 : decode cX6_breaks 185 = .ok (.iload 13, 2) := by decide +kernel
theorem dX6_breaks_187 : decode cX6_breaks 187 = .ok (.invokestatic 143, 3) := by decide +kernel
theorem dX6_breaks_190 : decode cX6_breaks 190 = .ok (.ifCond .eq 9, 3) := by decide +kernel
theorem dX6_breaks_193 : decode cX6_breaks 193 = .ok (.iload 4, 2) := by decide +kernel
theorem dX6_breaks_195 : decode cX6_breaks 195 = .ok (.i2l, 1) := by decide +kernel
theorem dX6_breaks_196 : decode cX6_breaks 196 = .ok (.goto 9, 3) := by decide +kernel
theorem dX6_breaks_199 : decode cX6_breaks 199 = .ok (.bipush 10, 2) := by decide +kernel
theorem dX6_breaks_201 : decode cX6_breaks 201 = .ok (.iload 4, 2) := by decide +kernel
theorem dX6_breaks_203 : decode cX6_breaks 203 = .ok (.isub, 1) := by decide +kernel
theorem dX6_breaks_204 : decode cX6_breaks 204 = .ok (.i2l, 1) := by decide +kernel
theorem dX6_breaks_205 : decode cX6_breaks 205 = .ok (.lmul, 1) := by decide +kernel
theorem dX6_breaks_206 : decode cX6_breaks 206 = .ok (.lstore 11, 2) := by decide +kernel
theorem dX6_breaks_208 : decode cX6_breaks 208 = .ok (.iinc 13 1, 3) := by decide +kernel
theorem dX6_breaks_211 : decode cX6_breaks 211 = .ok (.goto (-60), 3) := by decide +kernel
theorem dX6_breaks_214 : decode cX6_breaks 214 = .ok (.lload 6, 2) := by decide +kernel
theorem dX6_breaks_216 : decode cX6_breaks 216 = .ok (.aload_n 0, 1) := by decide +kernel
theorem dX6_breaks_217 : decode cX6_breaks 217 = .ok (.getfield 25, 3) := by decide +kernel
theorem dX6_breaks_220 : decode cX6_breaks 220 = .ok (.iload_n 1, 1) := by decide +kernel
theorem dX6_breaks_221 : decode cX6_breaks 221 = .ok (.iload_n 2, 1) := by decide +kernel
theorem dX6_breaks_222 : decode cX6_breaks 222 = .ok (.invokestatic 195, 3) := by decide +kernel
theorem dX6_breaks_225 : decode cX6_breaks 225 = .ok (.iload_n 3, 1) := by decide +kernel
theorem dX6_breaks_226 : decode cX6_breaks 226 = .ok (.if_icmp .gt 8, 3) := by decide +kernel
theorem dX6_breaks_229 : decode cX6_breaks 229 = .ok (.lload 11, 2) := by decide +kernel
theorem dX6_breaks_231 : decode cX6_breaks 231 = .ok (.goto 4, 3) := by decide +kernel
theorem dX6_breaks_234 : decode cX6_breaks 234 = .ok (.lconst 0, 1) := by decide +kernel
theorem dX6_breaks_235 : decode cX6_breaks 235 = .ok (.ladd, 1) := by decide +kernel
theorem dX6_breaks_236 : decode cX6_breaks 236 = .ok (.lstore 6, 2) := by decide +kernel
theorem dX6_breaks_238 : decode cX6_breaks 238 = .ok (.iinc 10 1, 3) := by decide +kernel
theorem dX6_breaks_241 : decode cX6_breaks 241 = .ok (.goto (-138), 3) := by decide +kernel
theorem dX6_breaks_244 : decode cX6_breaks 244 = .ok (.lload 6, 2) := by decide +kernel
theorem dX6_breaks_246 : decode cX6_breaks 246 = .ok (.lstore 10, 2) := by decide +kernel
theorem dX6_breaks_248 : decode cX6_breaks 248 = .ok (.lload 8, 2) := by decide +kernel
theorem dX6_breaks_250 : decode cX6_breaks 250 = .ok (.lstore 12, 2) := by decide +kernel
theorem dX6_breaks_252 : decode cX6_breaks 252 = .ok (.lload 12, 2) := by decide +kernel
theorem dX6_breaks_254 : decode cX6_breaks 254 = .ok (.lconst 0, 1) := by decide +kernel
theorem dX6_breaks_255 : decode cX6_breaks 255 = .ok (.lcmp, 1) := by decide +kernel
theorem dX6_breaks_256 : decode cX6_breaks 256 = .ok (.ifCond .eq 21, 3) := by decide +kernel
theorem dX6_breaks_259 : decode cX6_breaks 259 = .ok (.lload 10, 2) := by decide +kernel
theorem dX6_breaks_261 : decode cX6_breaks 261 = .ok (.lload 12, 2) := by decide +kernel
theorem dX6_breaks_263 : decode cX6_breaks 263 = .ok (.lrem, 1) := by decide +kernel
theorem dX6_breaks_264 : decode cX6_breaks 264 = .ok (.lstore 14, 2) := by decide +kernel
theorem dX6_breaks_266 : decode cX6_breaks 266 = .ok (.lload 12, 2) := by decide +kernel
theorem dX6_breaks_268 : decode cX6_breaks 268 = .ok (.lstore 10, 2) := by decide +kernel
theorem dX6_breaks_270 : decode cX6_breaks 270 = .ok (.lload 14, 2) := by decide +kernel
theorem dX6_breaks_272 : decode cX6_breaks 272 = .ok (.lstore 12, 2) := by decide +kernel
theorem dX6_breaks_274 : decode cX6_breaks 274 = .ok (.goto (-22), 3) := by decide +kernel
theorem dX6_breaks_277 : decode cX6_breaks 277 = .ok (.iload 5, 2) := by decide +kernel
theorem dX6_breaks_279 : decode cX6_breaks 279 = .ok (.ifCond .ne 11, 3) := by decide +kernel
theorem dX6_breaks_282 : decode cX6_breaks 282 = .ok (.lload 6, 2) := by decide +kernel
theorem dX6_breaks_284 : decode cX6_breaks 284 = .ok (.lload 10, 2) := by decide +kernel
theorem dX6_breaks_286 : decode cX6_breaks 286 = .ok (.ldiv, 1) := by decide +kernel
theorem dX6_breaks_287 : decode cX6_breaks 287 = .ok (.goto 8, 3) := by decide +kernel
theorem dX6_breaks_290 : decode cX6_breaks 290 = .ok (.lload 8, 2) := by decide +kernel
theorem dX6_breaks_292 : decode cX6_breaks 292 = .ok (.lload 10, 2) := by decide +kernel
theorem dX6_breaks_294 : decode cX6_breaks 294 = .ok (.ldiv, 1) := by decide +kernel
theorem dX6_breaks_295 : decode cX6_breaks 295 = .ok (.l2i, 1) := by decide +kernel
theorem dX6_breaks_296 : decode cX6_breaks 296 = .ok (.ireturn, 1) := by decide +kernel
theorem dX6_image_0 : decode cX6_image 0 = .ok (.iload_n 1, 1) := by decide +kernel
theorem dX6_image_1 : decode cX6_image 1 = .ok (.invokestatic 188, 3) := by decide +kernel
theorem dX6_image_4 : decode cX6_image 4 = .ok (.ifCond .ne 6, 3) := by decide +kernel
theorem dX6_image_7 : decode cX6_image 7 = .ok (.ldc 67, 2) := by decide +kernel
theorem dX6_image_9 : decode cX6_image 9 = .ok (.ireturn, 1) := by decide +kernel
theorem dX6_image_10 : decode cX6_image 10 = .ok (.aload_n 0, 1) := by decide +kernel
theorem dX6_image_11 : decode cX6_image 11 = .ok (.invokevirtual 168, 3) := by decide +kernel
theorem dX6_image_14 : decode cX6_image 14 = .ok (.ifCond .ne 6, 3) := by decide +kernel
theorem dX6_image_17 : decode cX6_image 17 = .ok (.ldc 171, 2) := by decide +kernel
theorem dX6_image_19 : decode cX6_image 19 = .ok (.ireturn, 1) := by decide +kernel
theorem dX6_image_20 : decode cX6_image 20 = .ok (.aload_n 0, 1) := by decide +kernel
theorem dX6_image_21 : decode cX6_image 21 = .ok (.getfield 19, 3) := by decide +kernel
theorem dX6_image_24 : decode cX6_image 24 = .ok (.iconst 0, 1) := by decide +kernel
theorem dX6_image_25 : decode cX6_image 25 = .ok (.aload_n 0, 1) := by decide +kernel
theorem dX6_image_26 : decode cX6_image 26 = .ok (.getfield 31, 3) := by decide +kernel
theorem dX6_image_29 : decode cX6_image 29 = .ok (.bipush 36, 2) := by decide +kernel
theorem dX6_image_31 : decode cX6_image 31 = .ok (.iload_n 1, 1) := by decide +kernel
theorem dX6_image_32 : decode cX6_image 32 = .ok (.imul, 1) := by decide +kernel
theorem dX6_image_33 : decode cX6_image 33 = .ok (.invokestatic 132, 3) := by decide +kernel
theorem dX6_image_36 : decode cX6_image 36 = .ok (.aload_n 0, 1) := by decide +kernel
theorem dX6_image_37 : decode cX6_image 37 = .ok (.getfield 34, 3) := by decide +kernel
theorem dX6_image_40 : decode cX6_image 40 = .ok (.iload_n 1, 1) := by decide +kernel
theorem dX6_image_41 : decode cX6_image 41 = .ok (.iconst 1, 1) := by decide +kernel
theorem dX6_image_42 : decode cX6_image 42 = .ok (.bastore, 1) := by decide +kernel
theorem dX6_image_43 : decode cX6_image 43 = .ok (.iconst 1, 1) := by decide +kernel
theorem dX6_image_44 : decode cX6_image 44 = .ok (.ireturn, 1) := by decide +kernel
theorem dX6_restore_0 : decode cX6_restore 0 = .ok (.iload_n 1, 1) := by decide +kernel
theorem dX6_restore_1 : decode cX6_restore 1 = .ok (.invokestatic 188, 3) := by decide +kernel
theorem dX6_restore_4 : decode cX6_restore 4 = .ok (.ifCond .ne 6, 3) := by decide +kernel
theorem dX6_restore_7 : decode cX6_restore 7 = .ok (.ldc 67, 2) := by decide +kernel
theorem dX6_restore_9 : decode cX6_restore 9 = .ok (.ireturn, 1) := by decide +kernel
theorem dX6_restore_10 : decode cX6_restore 10 = .ok (.aload_n 0, 1) := by decide +kernel
theorem dX6_restore_11 : decode cX6_restore 11 = .ok (.getfield 34, 3) := by decide +kernel
theorem dX6_restore_14 : decode cX6_restore 14 = .ok (.iload_n 1, 1) := by decide +kernel
theorem dX6_restore_15 : decode cX6_restore 15 = .ok (.baload, 1) := by decide +kernel
theorem dX6_restore_16 : decode cX6_restore 16 = .ok (.ifCond .ne 6, 3) := by decide +kernel
theorem dX6_restore_19 : decode cX6_restore 19 = .ok (.ldc 171, 2) := by decide +kernel
theorem dX6_restore_21 : decode cX6_restore 21 = .ok (.ireturn, 1) := by decide +kernel
theorem dX6_restore_22 : decode cX6_restore 22 = .ok (.aload_n 0, 1) := by decide +kernel
theorem dX6_restore_23 : decode cX6_restore 23 = .ok (.getfield 31, 3) := by decide +kernel
theorem dX6_restore_26 : decode cX6_restore 26 = .ok (.bipush 36, 2) := by decide +kernel
theorem dX6_restore_28 : decode cX6_restore 28 = .ok (.iload_n 1, 1) := by decide +kernel
theorem dX6_restore_29 : decode cX6_restore 29 = .ok (.imul, 1) := by decide +kernel
theorem dX6_restore_30 : decode cX6_restore 30 = .ok (.aload_n 0, 1) := by decide +kernel
theorem dX6_restore_31 : decode cX6_restore 31 = .ok (.getfield 19, 3) := by decide +kernel
theorem dX6_restore_34 : decode cX6_restore 34 = .ok (.iconst 0, 1) := by decide +kernel
theorem dX6_restore_35 : decode cX6_restore 35 = .ok (.invokestatic 132, 3) := by decide +kernel
theorem dX6_restore_38 : decode cX6_restore 38 = .ok (.aload_n 0, 1) := by decide +kernel
theorem dX6_restore_39 : decode cX6_restore 39 = .ok (.iconst 0, 1) := by decide +kernel
theorem dX6_restore_40 : decode cX6_restore 40 = .ok (.putfield 136, 3) := by decide +kernel
theorem dX6_restore_43 : decode cX6_restore 43 = .ok (.iconst 1, 1) := by decide +kernel
theorem dX6_restore_44 : decode cX6_restore 44 = .ok (.ireturn, 1) := by decide +kernel
theorem dX6_kind_0 : decode cX6_kind 0 = .ok (.aload_n 0, 1) := by decide +kernel
theorem dX6_kind_1 : decode cX6_kind 1 = .ok (.iload_n 1, 1) := by decide +kernel
theorem dX6_kind_2 : decode cX6_kind 2 = .ok (.invokevirtual 181, 3) := by decide +kernel
theorem dX6_kind_5 : decode cX6_kind 5 = .ok (.ifCond .eq 14, 3) := by decide +kernel
theorem dX6_kind_8 : decode cX6_kind 8 = .ok (.aload_n 0, 1) := by decide +kernel
theorem dX6_kind_9 : decode cX6_kind 9 = .ok (.getfield 19, 3) := by decide +kernel
theorem dX6_kind_12 : decode cX6_kind 12 = .ok (.iconst 4, 1) := by decide +kernel
theorem dX6_kind_13 : decode cX6_kind 13 = .ok (.iload_n 1, 1) := by decide +kernel
theorem dX6_kind_14 : decode cX6_kind 14 = .ok (.iadd, 1) := by decide +kernel
theorem dX6_kind_15 : decode cX6_kind 15 = .ok (.iaload, 1) := by decide +kernel
theorem dX6_kind_16 : decode cX6_kind 16 = .ok (.goto 5, 3) := by decide +kernel
theorem dX6_kind_19 : decode cX6_kind 19 = .ok (.ldc 67, 2) := by decide +kernel
theorem dX6_kind_21 : decode cX6_kind 21 = .ok (.ireturn, 1) := by decide +kernel
theorem dX6_isOf_0 : decode cX6_isOf 0 = .ok (.iload_n 1, 1) := by decide +kernel
theorem dX6_isOf_1 : decode cX6_isOf 1 = .ok (.ifCond .eq 33, 3) := by decide +kernel
theorem dX6_isOf_4 : decode cX6_isOf 4 = .ok (.iload_n 0, 1) := by decide +kernel
theorem dX6_isOf_5 : decode cX6_isOf 5 = .ok (.iload_n 1, 1) := by decide +kernel
theorem dX6_isOf_6 : decode cX6_isOf 6 = .ok (.if_icmp .eq 28, 3) := by decide +kernel
theorem dX6_isOf_9 : decode cX6_isOf 9 = .ok (.iload_n 1, 1) := by decide +kernel
theorem dX6_isOf_10 : decode cX6_isOf 10 = .ok (.iconst 1, 1) := by decide +kernel
theorem dX6_isOf_11 : decode cX6_isOf 11 = .ok (.if_icmp .ne 13, 3) := by decide +kernel
theorem dX6_isOf_14 : decode cX6_isOf 14 = .ok (.iload_n 0, 1) := by decide +kernel
theorem dX6_isOf_15 : decode cX6_isOf 15 = .ok (.iconst 2, 1) := by decide +kernel
theorem dX6_isOf_16 : decode cX6_isOf 16 = .ok (.if_icmp .eq 18, 3) := by decide +kernel
theorem dX6_isOf_19 : decode cX6_isOf 19 = .ok (.iload_n 0, 1) := by decide +kernel
theorem dX6_isOf_20 : decode cX6_isOf 20 = .ok (.iconst 3, 1) := by decide +kernel
theorem dX6_isOf_21 : decode cX6_isOf 21 = .ok (.if_icmp .eq 13, 3) := by decide +kernel
theorem dX6_isOf_24 : decode cX6_isOf 24 = .ok (.iload_n 1, 1) := by decide +kernel
theorem dX6_isOf_25 : decode cX6_isOf 25 = .ok (.iconst 4, 1) := by decide +kernel
theorem dX6_isOf_26 : decode cX6_isOf 26 = .ok (.if_icmp .ne 12, 3) := by decide +kernel
theorem dX6_isOf_29 : decode cX6_isOf 29 = .ok (.iload_n 0, 1) := by decide +kernel
theorem dX6_isOf_30 : decode cX6_isOf 30 = .ok (.iconst 5, 1) := by decide +kernel
theorem dX6_isOf_31 : decode cX6_isOf 31 = .ok (.if_icmp .ne 7, 3) := by decide +kernel
theorem dX6_isOf_34 : decode cX6_isOf 34 = .ok (.iconst 1, 1) := by decide +kernel
theorem dX6_isOf_35 : decode cX6_isOf 35 = .ok (.goto 4, 3) := by decide +kernel
theorem dX6_isOf_38 : decode cX6_isOf 38 = .ok (.iconst 0, 1) := by decide +kernel
theorem dX6_isOf_39 : decode cX6_isOf 39 = .ok (.ireturn, 1) := by decide +kernel
theorem dX6_as_0 : decode cX6_as 0 = .ok (.aload_n 0, 1) := by decide +kernel
theorem dX6_as_1 : decode cX6_as 1 = .ok (.iload_n 1, 1) := by decide +kernel
theorem dX6_as_2 : decode cX6_as 2 = .ok (.invokevirtual 181, 3) := by decide +kernel
theorem dX6_as_5 : decode cX6_as 5 = .ok (.ifCond .eq 15, 3) := by decide +kernel
theorem dX6_as_8 : decode cX6_as 8 = .ok (.iload_n 2, 1) := by decide +kernel
theorem dX6_as_9 : decode cX6_as 9 = .ok (.i2l, 1) := by decide +kernel
theorem dX6_as_10 : decode cX6_as 10 = .ok (.lconst 0, 1) := by decide +kernel
theorem dX6_as_11 : decode cX6_as 11 = .ok (.ldc2_w 211, 3) := by decide +kernel
theorem dX6_as_14 : decode cX6_as 14 = .ok (.invokestatic 57, 3) := by decide +kernel
theorem dX6_as_17 : decode cX6_as 17 = .ok (.ifCond .ne 6, 3) := by decide +kernel
theorem dX6_as_20 : decode cX6_as 20 = .ok (.ldc 67, 2) := by decide +kernel
theorem dX6_as_22 : decode cX6_as 22 = .ok (.ireturn, 1) := by decide +kernel
theorem dX6_as_23 : decode cX6_as 23 = .ok (.aload_n 0, 1) := by decide +kernel
theorem dX6_as_24 : decode cX6_as 24 = .ok (.getfield 19, 3) := by decide +kernel
theorem dX6_as_27 : decode cX6_as 27 = .ok (.iconst 4, 1) := by decide +kernel
theorem dX6_as_28 : decode cX6_as 28 = .ok (.iload_n 1, 1) := by decide +kernel
theorem dX6_as_29 : decode cX6_as 29 = .ok (.iadd, 1) := by decide +kernel
theorem dX6_as_30 : decode cX6_as 30 = .ok (.iaload, 1) := by decide +kernel
theorem dX6_as_31 : decode cX6_as 31 = .ok (.iload_n 2, 1) := by decide +kernel
theorem dX6_as_32 : decode cX6_as 32 = .ok (.invokestatic 213, 3) := by decide +kernel
theorem dX6_as_35 : decode cX6_as 35 = .ok (.ifCond .eq 11, 3) := by decide +kernel
theorem dX6_as_38 : decode cX6_as 38 = .ok (.aload_n 0, 1) := by decide +kernel
theorem dX6_as_39 : decode cX6_as 39 = .ok (.iload_n 1, 1) := by decide +kernel
theorem dX6_as_40 : decode cX6_as 40 = .ok (.invokevirtual 72, 3) := by decide +kernel
theorem dX6_as_43 : decode cX6_as 43 = .ok (.goto 8, 3) := by decide +kernel
theorem dX6_as_46 : decode cX6_as 46 = .ok (.aload_n 0, 1) := by decide +kernel
theorem dX6_as_47 : decode cX6_as 47 = .ok (.iconst 3, 1) := by decide +kernel
theorem dX6_as_48 : decode cX6_as 48 = .ok (.invokevirtual 68, 3) := by decide +kernel
theorem dX6_as_51 : decode cX6_as 51 = .ok (.ireturn, 1) := by decide +kernel
theorem dX6_leave_0 : decode cX6_leave 0 = .ok (.lconst 1, 1) := by decide +kernel
theorem dX6_leave_1 : decode cX6_leave 1 = .ok (.lstore_n 3, 1) := by decide +kernel
theorem dX6_leave_2 : decode cX6_leave 2 = .ok (.lload_n 3, 1) := by decide +kernel
theorem dX6_leave_3 : decode cX6_leave 3 = .ok (.ldc2_w 216, 3) := by decide +kernel
theorem dX6_leave_6 : decode cX6_leave 6 = .ok (.lmul, 1) := by decide +kernel
theorem dX6_leave_7 : decode cX6_leave 7 = .ok (.lload_n 1, 1) := by decide +kernel
theorem dX6_leave_8 : decode cX6_leave 8 = .ok (.lcmp, 1) := by decide +kernel
theorem dX6_leave_9 : decode cX6_leave 9 = .ok (.ifCond .gt 12, 3) := by decide +kernel
theorem dX6_leave_12 : decode cX6_leave 12 = .ok (.lload_n 3, 1) := by decide +kernel
theorem dX6_leave_13 : decode cX6_leave 13 = .ok (.ldc2_w 216, 3) := by decide +kernel
theorem dX6_leave_16 : decode cX6_leave 16 = .ok (.lmul, 1) := by decide +kernel
theorem dX6_leave_17 : decode cX6_leave 17 = .ok (.lstore_n 3, 1) := by decide +kernel
theorem dX6_leave_18 : decode cX6_leave 18 = .ok (.goto (-16), 3) := by decide +kernel
theorem dX6_leave_21 : decode cX6_leave 21 = .ok (.lload_n 1, 1) := by decide +kernel
theorem dX6_leave_22 : decode cX6_leave 22 = .ok (.lstore 5, 2) := by decide +kernel
theorem dX6_leave_24 : decode cX6_leave 24 = .ok (.lload_n 3, 1) := by decide +kernel
theorem dX6_leave_25 : decode cX6_leave 25 = .ok (.lconst 0, 1) := by decide +kernel
theorem dX6_leave_26 : decode cX6_leave 26 = .ok (.lcmp, 1) := by decide +kernel
theorem dX6_leave_27 : decode cX6_leave 27 = .ok (.ifCond .le 42, 3) := by decide +kernel
theorem dX6_leave_30 : decode cX6_leave 30 = .ok (.aload_n 0, 1) := by decide +kernel
theorem dX6_leave_31 : decode cX6_leave 31 = .ok (.getfield 41, 3) := by decide +kernel
theorem dX6_leave_34 : decode cX6_leave 34 = .ok (.aload_n 0, 1) := by decide +kernel
theorem dX6_leave_35 : decode cX6_leave 35 = .ok (.getfield 218, 3) := by decide +kernel
theorem dX6_leave_38 : decode cX6_leave 38 = .ok (.lload 5, 2) := by decide +kernel
theorem dX6_leave_40 : decode cX6_leave 40 = .ok (.lload_n 3, 1) := by decide +kernel
theorem dX6_leave_41 : decode cX6_leave 41 = .ok (.ldiv, 1) := by decide +kernel
theorem dX6_leave_42 : decode cX6_leave 42 = .ok (.l2i, 1) := by decide +kernel
theorem dX6_leave_43 : decode cX6_leave 43 = .ok (.iastore, 1) := by decide +kernel
theorem dX6_leave_44 : decode cX6_leave 44 = .ok (.lload 5, 2) := by decide +kernel
theorem dX6_leave_46 : decode cX6_leave 46 = .ok (.lload_n 3, 1) := by decide +kernel
theorem dX6_leave_47 : decode cX6_leave 47 = .ok (.lrem, 1) := by decide +kernel
theorem dX6_leave_48 : decode cX6_leave 48 = .ok (.lstore 5, 2) := by decide +kernel
theorem dX6_leave_50 : decode cX6_leave 50 = .ok (.aload_n 0, 1) := by decide +kernel
theorem dX6_leave_51 : decode cX6_leave 51 = .ok (.dup, 1) := by decide +kernel
theorem dX6_leave_52 : decode cX6_leave 52 = .ok (.getfield 218, 3) := by decide +kernel
theorem dX6_leave_55 : decode cX6_leave 55 = .ok (.iconst 1, 1) := by decide +kernel
theorem dX6_leave_56 : decode cX6_leave 56 = .ok (.iadd, 1) := by decide +kernel
theorem dX6_leave_57 : decode cX6_leave 57 = .ok (.putfield 218, 3) := by decide +kernel
theorem dX6_leave_60 : decode cX6_leave 60 = .ok (.lload_n 3, 1) := by decide +kernel
theorem dX6_leave_61 : decode cX6_leave 61 = .ok (.ldc2_w 216, 3) := by decide +kernel
theorem dX6_leave_64 : decode cX6_leave 64 = .ok (.ldiv, 1) := by decide +kernel
theorem dX6_leave_65 : decode cX6_leave 65 = .ok (.lstore_n 3, 1) := by decide +kernel
theorem dX6_leave_66 : decode cX6_leave 66 = .ok (.goto (-42), 3) := by decide +kernel
theorem dX6_leave_69 : decode cX6_leave 69 = .ok (.return_, 1) := by decide +kernel
theorem dX6_mark_0 : decode cX6_mark 0 = .ok (.aload_n 0, 1) := by decide +kernel
theorem dX6_mark_1 : decode cX6_mark 1 = .ok (.getfield 19, 3) := by decide +kernel
theorem dX6_mark_4 : decode cX6_mark 4 = .ok (.iconst 4, 1) := by decide +kernel
theorem dX6_mark_5 : decode cX6_mark 5 = .ok (.iload_n 1, 1) := by decide +kernel
theorem dX6_mark_6 : decode cX6_mark 6 = .ok (.iadd, 1) := by decide +kernel
theorem dX6_mark_7 : decode cX6_mark 7 = .ok (.iaload, 1) := by decide +kernel
theorem dX6_mark_8 : decode cX6_mark 8 = .ok (.istore_n 2, 1) := by decide +kernel
theorem dX6_mark_9 : decode cX6_mark 9 = .ok (.iload_n 1, 1) := by decide +kernel
theorem dX6_mark_10 : decode cX6_mark 10 = .ok (.aload_n 0, 1) := by decide +kernel
theorem dX6_mark_11 : decode cX6_mark 11 = .ok (.getfield 19, 3) := by decide +kernel
theorem dX6_mark_14 : decode cX6_mark 14 = .ok (.iload_n 1, 1) := by decide +kernel
theorem dX6_mark_15 : decode cX6_mark 15 = .ok (.aload_n 0, 1) := by decide +kernel
theorem dX6_mark_16 : decode cX6_mark 16 = .ok (.getfield 19, 3) := by decide +kernel
theorem dX6_mark_19 : decode cX6_mark 19 = .ok (.bipush 35, 2) := by decide +kernel
theorem dX6_mark_21 : decode cX6_mark 21 = .ok (.iaload, 1) := by decide +kernel
theorem dX6_mark_22 : decode cX6_mark 22 = .ok (.invokestatic 147, 3) := by decide +kernel
theorem dX6_mark_25 : decode cX6_mark 25 = .ok (.iadd, 1) := by decide +kernel
theorem dX6_mark_26 : decode cX6_mark 26 = .ok (.istore_n 3, 1) := by decide +kernel
theorem dX6_mark_27 : decode cX6_mark 27 = .ok (.aload_n 0, 1) := by decide +kernel
theorem dX6_mark_28 : decode cX6_mark 28 = .ok (.iload_n 2, 1) := by decide +kernel
theorem dX6_mark_29 : decode cX6_mark 29 = .ok (.iconst 2, 1) := by decide +kernel
theorem dX6_mark_30 : decode cX6_mark 30 = .ok (.if_icmp .ne 9, 3) := by decide +kernel
theorem dX6_mark_33 : decode cX6_mark 33 = .ok (.ldc2_w 221, 3) := by decide +kernel
theorem dX6_mark_36 : decode cX6_mark 36 = .ok (.goto 17, 3) := by decide +kernel
theorem dX6_mark_39 : decode cX6_mark 39 = .ok (.iload_n 2, 1) := by decide +kernel
theorem dX6_mark_40 : decode cX6_mark 40 = .ok (.iconst 3, 1) := by decide +kernel
theorem dX6_mark_41 : decode cX6_mark 41 = .ok (.if_icmp .ne 9, 3) := by decide +kernel
theorem dX6_mark_44 : decode cX6_mark 44 = .ok (.ldc2_w 223, 3) := by decide +kernel
theorem dX6_mark_47 : decode cX6_mark 47 = .ok (.goto 6, 3) := by decide +kernel
theorem dX6_mark_50 : decode cX6_mark 50 = .ok (.ldc2_w 225, 3) := by decide +kernel
theorem dX6_mark_53 : decode cX6_mark 53 = .ok (.invokevirtual 227, 3) := by decide +kernel
theorem dX6_mark_56 : decode cX6_mark 56 = .ok (.iload_n 2, 1) := by decide +kernel
theorem dX6_mark_57 : decode cX6_mark 57 = .ok (.iconst 2, 1) := by decide +kernel
theorem dX6_mark_58 : decode cX6_mark 58 = .ok (.if_icmp .ne 9, 3) := by decide +kernel
theorem dX6_mark_61 : decode cX6_mark 61 = .ok (.iconst 2, 1) := by decide +kernel
theorem dX6_mark_62 : decode cX6_mark 62 = .ok (.iload_n 3, 1) := by decide +kernel
theorem dX6_mark_63 : decode cX6_mark 63 = .ok (.imul, 1) := by decide +kernel
theorem dX6_mark_64 : decode cX6_mark 64 = .ok (.goto 17, 3) := by decide +kernel
theorem dX6_mark_67 : decode cX6_mark 67 = .ok (.iload_n 2, 1) := by decide +kernel
theorem dX6_mark_68 : decode cX6_mark 68 = .ok (.iconst 3, 1) := by decide +kernel
theorem dX6_mark_69 : decode cX6_mark 69 = .ok (.if_icmp .ne 11, 3) := by decide +kernel
theorem dX6_mark_72 : decode cX6_mark 72 = .ok (.iload_n 3, 1) := by decide +kernel
theorem dX6_mark_73 : decode cX6_mark 73 = .ok (.sipush 1000, 3) := by decide +kernel
theorem dX6_mark_76 : decode cX6_mark 76 = .ok (.isub, 1) := by decide +kernel
theorem dX6_mark_77 : decode cX6_mark 77 = .ok (.goto 4, 3) := by decide +kernel
theorem dX6_mark_80 : decode cX6_mark 80 = .ok (.iload_n 3, 1) := by decide +kernel
theorem dX6_mark_81 : decode cX6_mark 81 = .ok (.ireturn, 1) := by decide +kernel
theorem dX6_sizeOf_0 : decode cX6_sizeOf 0 = .ok (.aload_n 0, 1) := by decide +kernel
theorem dX6_sizeOf_1 : decode cX6_sizeOf 1 = .ok (.getfield 19, 3) := by decide +kernel
theorem dX6_sizeOf_4 : decode cX6_sizeOf 4 = .ok (.bipush 22, 2) := by decide +kernel
theorem dX6_sizeOf_6 : decode cX6_sizeOf 6 = .ok (.iload_n 1, 1) := by decide +kernel
theorem dX6_sizeOf_7 : decode cX6_sizeOf 7 = .ok (.iadd, 1) := by decide +kernel
theorem dX6_sizeOf_8 : decode cX6_sizeOf 8 = .ok (.iaload, 1) := by decide +kernel
theorem dX6_sizeOf_9 : decode cX6_sizeOf 9 = .ok (.bipush 100, 2) := by decide +kernel
theorem dX6_sizeOf_11 : decode cX6_sizeOf 11 = .ok (.isub, 1) := by decide +kernel
theorem dX6_sizeOf_12 : decode cX6_sizeOf 12 = .ok (.istore_n 2, 1) := by decide +kernel
theorem dX6_sizeOf_13 : decode cX6_sizeOf 13 = .ok (.aload_n 0, 1) := by decide +kernel
theorem dX6_sizeOf_14 : decode cX6_sizeOf 14 = .ok (.getfield 19, 3) := by decide +kernel
theorem dX6_sizeOf_17 : decode cX6_sizeOf 17 = .ok (.iconst 4, 1) := by decide +kernel
theorem dX6_sizeOf_18 : decode cX6_sizeOf 18 = .ok (.iload_n 1, 1) := by decide +kernel
theorem dX6_sizeOf_19 : decode cX6_sizeOf 19 = .ok (.iadd, 1) := by decide +kernel
theorem dX6_sizeOf_20 : decode cX6_sizeOf 20 = .ok (.iaload, 1) := by decide +kernel
theorem dX6_sizeOf_21 : decode cX6_sizeOf 21 = .ok (.iconst 5, 1) := by decide +kernel
theorem dX6_sizeOf_22 : decode cX6_sizeOf 22 = .ok (.if_icmp .ne 7, 3) := by decide +kernel
theorem dX6_sizeOf_25 : decode cX6_sizeOf 25 = .ok (.iconst 1, 1) := by decide +kernel
theorem dX6_sizeOf_26 : decode cX6_sizeOf 26 = .ok (.goto 4, 3) := by decide +kernel
theorem dX6_sizeOf_29 : decode cX6_sizeOf 29 = .ok (.iconst 0, 1) := by decide +kernel
theorem dX6_sizeOf_30 : decode cX6_sizeOf 30 = .ok (.istore_n 3, 1) := by decide +kernel
theorem dX6_sizeOf_31 : decode cX6_sizeOf 31 = .ok (.aload_n 0, 1) := by decide +kernel
theorem dX6_sizeOf_32 : decode cX6_sizeOf 32 = .ok (.iload_n 3, 1) := by decide +kernel
theorem dX6_sizeOf_33 : decode cX6_sizeOf 33 = .ok (.ifCond .eq 9, 3) := by decide +kernel
theorem dX6_sizeOf_36 : decode cX6_sizeOf 36 = .ok (.ldc2_w 231, 3) := by decide +kernel
theorem dX6_sizeOf_39 : decode cX6_sizeOf 39 = .ok (.goto 6, 3) := by decide +kernel
theorem dX6_sizeOf_42 : decode cX6_sizeOf 42 = .ok (.ldc2_w 233, 3) := by decide +kernel
theorem dX6_sizeOf_45 : decode cX6_sizeOf 45 = .ok (.invokevirtual 227, 3) := by decide +kernel
theorem dX6_sizeOf_48 : decode cX6_sizeOf 48 = .ok (.iload_n 3, 1) := by decide +kernel
theorem dX6_sizeOf_49 : decode cX6_sizeOf 49 = .ok (.ifCond .eq 9, 3) := by decide +kernel
theorem dX6_sizeOf_52 : decode cX6_sizeOf 52 = .ok (.iconst 2, 1) := by decide +kernel
theorem dX6_sizeOf_53 : decode cX6_sizeOf 53 = .ok (.iload_n 2, 1) := by decide +kernel
theorem dX6_sizeOf_54 : decode cX6_sizeOf 54 = .ok (.imul, 1) := by decide +kernel
theorem dX6_sizeOf_55 : decode cX6_sizeOf 55 = .ok (.goto 4, 3) := by decide +kernel
theorem dX6_sizeOf_58 : decode cX6_sizeOf 58 = .ok (.iload_n 2, 1) := by decide +kernel
theorem dX6_sizeOf_59 : decode cX6_sizeOf 59 = .ok (.ireturn, 1) := by decide +kernel
theorem dX6_ask_0 : decode cX6_ask 0 = .ok (.aload_n 0, 1) := by decide +kernel
theorem dX6_ask_1 : decode cX6_ask 1 = .ok (.iload_n 1, 1) := by decide +kernel
theorem dX6_ask_2 : decode cX6_ask 2 = .ok (.invokevirtual 181, 3) := by decide +kernel
theorem dX6_ask_5 : decode cX6_ask 5 = .ok (.ifCond .eq 10, 3) := by decide +kernel
theorem dX6_ask_8 : decode cX6_ask 8 = .ok (.iload_n 2, 1) := by decide +kernel
theorem dX6_ask_9 : decode cX6_ask 9 = .ok (.invokestatic 188, 3) := by decide +kernel
theorem dX6_ask_12 : decode cX6_ask 12 = .ok (.ifCond .ne 6, 3) := by decide +kernel
theorem dX6_ask_15 : decode cX6_ask 15 = .ok (.ldc 67, 2) := by decide +kernel
theorem dX6_ask_17 : decode cX6_ask 17 = .ok (.ireturn, 1) := by decide +kernel
theorem dX6_ask_18 : decode cX6_ask 18 = .ok (.aload_n 0, 1) := by decide +kernel
theorem dX6_ask_19 : decode cX6_ask 19 = .ok (.iconst 0, 1) := by decide +kernel
theorem dX6_ask_20 : decode cX6_ask 20 = .ok (.putfield 218, 3) := by decide +kernel
theorem dX6_ask_23 : decode cX6_ask 23 = .ok (.aload_n 0, 1) := by decide +kernel
theorem dX6_ask_24 : decode cX6_ask 24 = .ok (.getfield 19, 3) := by decide +kernel
theorem dX6_ask_27 : decode cX6_ask 27 = .ok (.iconst 4, 1) := by decide +kernel
theorem dX6_ask_28 : decode cX6_ask 28 = .ok (.iload_n 1, 1) := by decide +kernel
theorem dX6_ask_29 : decode cX6_ask 29 = .ok (.iadd, 1) := by decide +kernel
theorem dX6_ask_30 : decode cX6_ask 30 = .ok (.iaload, 1) := by decide +kernel
theorem dX6_ask_31 : decode cX6_ask 31 = .ok (.istore_n 3, 1) := by decide +kernel
theorem dX6_ask_32 : decode cX6_ask 32 = .ok (.iload_n 3, 1) := by decide +kernel
theorem dX6_ask_33 : decode cX6_ask 33 = .ok (.iconst 4, 1) := by decide +kernel
theorem dX6_ask_34 : decode cX6_ask 34 = .ok (.if_icmp .ge 63, 3) := by decide +kernel
theorem dX6_ask_37 : decode cX6_ask 37 = .ok (.iload_n 2, 1) := by decide +kernel
theorem dX6_ask_38 : decode cX6_ask 38 = .ok (.iconst 1, 1) := by decide +kernel
theorem dX6_ask_39 : decode cX6_ask 39 = .ok (.if_icmp .ne 9, 3) := by decide +kernel
theorem dX6_ask_42 : decode cX6_ask 42 = .ok (.aload_n 0, 1) := by decide +kernel
theorem dX6_ask_43 : decode cX6_ask 43 = .ok (.iload_n 1, 1) := by decide +kernel
theorem dX6_ask_44 : decode cX6_ask 44 = .ok (.invokevirtual 235, 3) := by decide +kernel
theorem dX6_ask_47 : decode cX6_ask 47 = .ok (.ireturn, 1) := by decide +kernel
theorem dX6_ask_48 : decode cX6_ask 48 = .ok (.aload_n 0, 1) := by decide +kernel
theorem dX6_ask_49 : decode cX6_ask 49 = .ok (.iload_n 3, 1) := by decide +kernel
theorem dX6_ask_50 : decode cX6_ask 50 = .ok (.iconst 2, 1) := by decide +kernel
theorem dX6_ask_51 : decode cX6_ask 51 = .ok (.if_icmp .ne 9, 3) := by decide +kernel
theorem dX6_ask_54 : decode cX6_ask 54 = .ok (.ldc2_w 238, 3) := by decide +kernel
theorem dX6_ask_57 : decode cX6_ask 57 = .ok (.goto 6, 3) := by decide +kernel
theorem dX6_ask_60 : decode cX6_ask 60 = .ok (.ldc2_w 240, 3) := by decide +kernel
theorem dX6_ask_63 : decode cX6_ask 63 = .ok (.invokevirtual 227, 3) := by decide +kernel
theorem dX6_ask_66 : decode cX6_ask 66 = .ok (.aload_n 0, 1) := by decide +kernel
theorem dX6_ask_67 : decode cX6_ask 67 = .ok (.getfield 19, 3) := by decide +kernel
theorem dX6_ask_70 : decode cX6_ask 70 = .ok (.bipush 22, 2) := by decide +kernel
theorem dX6_ask_72 : decode cX6_ask 72 = .ok (.iload_n 1, 1) := by decide +kernel
theorem dX6_ask_73 : decode cX6_ask 73 = .ok (.iadd, 1) := by decide +kernel
theorem dX6_ask_74 : decode cX6_ask 74 = .ok (.iaload, 1) := by decide +kernel
theorem dX6_ask_75 : decode cX6_ask 75 = .ok (.aload_n 0, 1) := by decide +kernel
theorem dX6_ask_76 : decode cX6_ask 76 = .ok (.iload_n 1, 1) := by decide +kernel
theorem dX6_ask_77 : decode cX6_ask 77 = .ok (.invokevirtual 235, 3) := by decide +kernel
theorem dX6_ask_80 : decode cX6_ask 80 = .ok (.iadd, 1) := by decide +kernel
theorem dX6_ask_81 : decode cX6_ask 81 = .ok (.istore 4, 2) := by decide +kernel
theorem dX6_ask_83 : decode cX6_ask 83 = .ok (.iload_n 3, 1) := by decide +kernel
theorem dX6_ask_84 : decode cX6_ask 84 = .ok (.iconst 2, 1) := by decide +kernel
theorem dX6_ask_85 : decode cX6_ask 85 = .ok (.if_icmp .ne 9, 3) := by decide +kernel
theorem dX6_ask_88 : decode cX6_ask 88 = .ok (.iload 4, 2) := by decide +kernel
theorem dX6_ask_90 : decode cX6_ask 90 = .ok (.ineg, 1) := by decide +kernel
theorem dX6_ask_91 : decode cX6_ask 91 = .ok (.goto 5, 3) := by decide +kernel
theorem dX6_ask_94 : decode cX6_ask 94 = .ok (.iload 4, 2) := by decide +kernel
theorem dX6_ask_96 : decode cX6_ask 96 = .ok (.ireturn, 1) := by decide +kernel
theorem dX6_ask_97 : decode cX6_ask 97 = .ok (.iload_n 2, 1) := by decide +kernel
theorem dX6_ask_98 : decode cX6_ask 98 = .ok (.ifCond .ne 9, 3) := by decide +kernel
theorem dX6_ask_101 : decode cX6_ask 101 = .ok (.aload_n 0, 1) := by decide +kernel
theorem dX6_ask_102 : decode cX6_ask 102 = .ok (.iload_n 1, 1) := by decide +kernel
theorem dX6_ask_103 : decode cX6_ask 103 = .ok (.invokevirtual 242, 3) := by decide +kernel
theorem dX6_ask_106 : decode cX6_ask 106 = .ok (.ireturn, 1) := by decide +kernel
theorem dX6_ask_107 : decode cX6_ask 107 = .ok (.aload_n 0, 1) := by decide +kernel
theorem dX6_ask_108 : decode cX6_ask 108 = .ok (.ldc2_w 245, 3) := by decide +kernel
theorem dX6_ask_111 : decode cX6_ask 111 = .ok (.invokevirtual 227, 3) := by decide +kernel
theorem dX6_ask_114 : decode cX6_ask 114 = .ok (.iload_n 1, 1) := by decide +kernel
theorem dX6_ask_115 : decode cX6_ask 115 = .ok (.aload_n 0, 1) := by decide +kernel
theorem dX6_ask_116 : decode cX6_ask 116 = .ok (.iload_n 1, 1) := by decide +kernel
theorem dX6_ask_117 : decode cX6_ask 117 = .ok (.invokevirtual 242, 3) := by decide +kernel
theorem dX6_ask_120 : decode cX6_ask 120 = .ok (.isub, 1) := by decide +kernel
theorem dX6_ask_121 : decode cX6_ask 121 = .ok (.ireturn, 1) := by decide +kernel
theorem dX6_trace_0 : decode cX6_trace 0 = .ok (.iload_n 1, 1) := by decide +kernel
theorem dX6_trace_1 : decode cX6_trace 1 = .ok (.i2l, 1) := by decide +kernel
theorem dX6_trace_2 : decode cX6_trace 2 = .ok (.lconst 0, 1) := by decide +kernel
theorem dX6_trace_3 : decode cX6_trace 3 = .ok (.aload_n 0, 1) := by decide +kernel
theorem dX6_trace_4 : decode cX6_trace 4 = .ok (.getfield 218, 3) := by decide +kernel
theorem dX6_trace_7 : decode cX6_trace 7 = .ok (.iconst 1, 1) := by decide +kernel
theorem dX6_trace_8 : decode cX6_trace 8 = .ok (.isub, 1) := by decide +kernel
theorem dX6_trace_9 : decode cX6_trace 9 = .ok (.i2l, 1) := by decide +kernel
theorem dX6_trace_10 : decode cX6_trace 10 = .ok (.invokestatic 57, 3) := by decide +kernel
theorem dX6_trace_13 : decode cX6_trace 13 = .ok (.ifCond .eq 12, 3) := by decide +kernel
theorem dX6_trace_16 : decode cX6_trace 16 = .ok (.aload_n 0, 1) := by decide +kernel
theorem dX6_trace_17 : decode cX6_trace 17 = .ok (.getfield 41, 3) := by decide +kernel
theorem dX6_trace_20 : decode cX6_trace 20 = .ok (.iload_n 1, 1) := by decide +kernel
theorem dX6_trace_21 : decode cX6_trace 21 = .ok (.iaload, 1) := by decide +kernel
theorem dX6_trace_22 : decode cX6_trace 22 = .ok (.goto 5, 3) := by decide +kernel
theorem dX6_trace_25 : decode cX6_trace 25 = .ok (.ldc 194, 2) := by decide +kernel
theorem dX6_trace_27 : decode cX6_trace 27 = .ok (.ireturn, 1) := by decide +kernel
theorem dX6_count_0 : decode cX6_count 0 = .ok (.iconst 0, 1) := by decide +kernel
theorem dX6_count_1 : decode cX6_count 1 = .ok (.istore_n 2, 1) := by decide +kernel
theorem dX6_count_2 : decode cX6_count 2 = .ok (.iconst 0, 1) := by decide +kernel
theorem dX6_count_3 : decode cX6_count 3 = .ok (.istore_n 3, 1) := by decide +kernel
theorem dX6_count_4 : decode cX6_count 4 = .ok (.iconst 0, 1) := by decide +kernel
theorem dX6_count_5 : decode cX6_count 5 = .ok (.istore 4, 2) := by decide +kernel
theorem dX6_count_7 : decode cX6_count 7 = .ok (.iload 4, 2) := by decide +kernel
theorem dX6_count_9 : decode cX6_count 9 = .ok (.bipush 8, 2) := by decide +kernel
theorem dX6_count_11 : decode cX6_count 11 = .ok (.if_icmp .ge 27, 3) := by decide +kernel
theorem dX6_count_14 : decode cX6_count 14 = .ok (.iload_n 2, 1) := by decide +kernel
theorem dX6_count_15 : decode cX6_count 15 = .ok (.aload_n 0, 1) := by decide +kernel
theorem dX6_count_16 : decode cX6_count 16 = .ok (.getfield 13, 3) := by decide +kernel
theorem dX6_count_19 : decode cX6_count 19 = .ok (.iload 4, 2) := by decide +kernel
theorem dX6_count_21 : decode cX6_count 21 = .ok (.iaload, 1) := by decide +kernel
theorem dX6_count_22 : decode cX6_count 22 = .ok (.ifCond .ge 7, 3) := by decide +kernel
theorem dX6_count_25 : decode cX6_count 25 = .ok (.iconst 0, 1) := by decide +kernel
theorem dX6_count_26 : decode cX6_count 26 = .ok (.goto 4, 3) := by decide +kernel
theorem dX6_count_29 : decode cX6_count 29 = .ok (.iconst 1, 1) := by decide +kernel
theorem dX6_count_30 : decode cX6_count 30 = .ok (.iadd, 1) := by decide +kernel
theorem dX6_count_31 : decode cX6_count 31 = .ok (.istore_n 2, 1) := by decide +kernel
theorem dX6_count_32 : decode cX6_count 32 = .ok (.iinc 4 1, 3) := by decide +kernel
theorem dX6_count_35 : decode cX6_count 35 = .ok (.goto (-28), 3) := by decide +kernel
theorem dX6_count_38 : decode cX6_count 38 = .ok (.iconst 0, 1) := by decide +kernel
theorem dX6_count_39 : decode cX6_count 39 = .ok (.istore 4, 2) := by decide +kernel
theorem dX6_count_41 : decode cX6_count 41 = .ok (.iload 4, 2) := by decide +kernel
theorem dX6_count_43 : decode cX6_count 43 = .ok (.bipush 6, 2) := by decide +kernel
theorem dX6_count_45 : decode cX6_count 45 = .ok (.if_icmp .ge 32, 3) := by decide +kernel
theorem dX6_count_48 : decode cX6_count 48 = .ok (.iload_n 3, 1) := by decide +kernel
theorem dX6_count_49 : decode cX6_count 49 = .ok (.aload_n 0, 1) := by decide +kernel
theorem dX6_count_50 : decode cX6_count 50 = .ok (.getfield 19, 3) := by decide +kernel
theorem dX6_count_53 : decode cX6_count 53 = .ok (.bipush 34, 2) := by decide +kernel
theorem dX6_count_55 : decode cX6_count 55 = .ok (.iaload, 1) := by decide +kernel
theorem dX6_count_56 : decode cX6_count 56 = .ok (.iload 4, 2) := by decide +kernel
theorem dX6_count_58 : decode cX6_count 58 = .ok (.invokestatic 143, 3) := by decide +kernel
theorem dX6_count_61 : decode cX6_count 61 = .ok (.ifCond .eq 7, 3) := by decide +kernel
theorem dX6_count_64 : decode cX6_count 64 = .ok (.iconst 1, 1) := by decide +kernel
theorem dX6_count_65 : decode cX6_count 65 = .ok (.goto 4, 3) := by decide +kernel
theorem dX6_count_68 : decode cX6_count 68 = .ok (.iconst 0, 1) := by decide +kernel
theorem dX6_count_69 : decode cX6_count 69 = .ok (.iadd, 1) := by decide +kernel
theorem dX6_count_70 : decode cX6_count 70 = .ok (.istore_n 3, 1) := by decide +kernel
theorem dX6_count_71 : decode cX6_count 71 = .ok (.iinc 4 1, 3) := by decide +kernel
theorem dX6_count_74 : decode cX6_count 74 = .ok (.goto (-33), 3) := by decide +kernel
theorem dX6_count_77 : decode cX6_count 77 = .ok (.iload_n 1, 1) := by decide +kernel
theorem dX6_count_78 : decode cX6_count 78 = .ok (.tableswitch 89 0 7 #[46, 48, 55, 63, 70, 77, 79, 84], 46) := by decide +kernel
theorem dX6_count_124 : decode cX6_count 124 = .ok (.iload_n 2, 1) := by decide +kernel
theorem dX6_count_125 : decode cX6_count 125 = .ok (.ireturn, 1) := by decide +kernel
theorem dX6_count_126 : decode cX6_count 126 = .ok (.aload_n 0, 1) := by decide +kernel
theorem dX6_count_127 : decode cX6_count 127 = .ok (.getfield 19, 3) := by decide +kernel
theorem dX6_count_130 : decode cX6_count 130 = .ok (.iconst 0, 1) := by decide +kernel
theorem dX6_count_131 : decode cX6_count 131 = .ok (.iaload, 1) := by decide +kernel
theorem dX6_count_132 : decode cX6_count 132 = .ok (.ireturn, 1) := by decide +kernel
theorem dX6_count_133 : decode cX6_count 133 = .ok (.aload_n 0, 1) := by decide +kernel
theorem dX6_count_134 : decode cX6_count 134 = .ok (.getfield 19, 3) := by decide +kernel
theorem dX6_count_137 : decode cX6_count 137 = .ok (.bipush 35, 2) := by decide +kernel
theorem dX6_count_139 : decode cX6_count 139 = .ok (.iaload, 1) := by decide +kernel
theorem dX6_count_140 : decode cX6_count 140 = .ok (.ireturn, 1) := by decide +kernel
theorem dX6_count_141 : decode cX6_count 141 = .ok (.aload_n 0, 1) := by decide +kernel
theorem dX6_count_142 : decode cX6_count 142 = .ok (.getfield 19, 3) := by decide +kernel
theorem dX6_count_145 : decode cX6_count 145 = .ok (.iconst 1, 1) := by decide +kernel
theorem dX6_count_146 : decode cX6_count 146 = .ok (.iaload, 1) := by decide +kernel
theorem dX6_count_147 : decode cX6_count 147 = .ok (.ireturn, 1) := by decide +kernel
theorem dX6_count_148 : decode cX6_count 148 = .ok (.aload_n 0, 1) := by decide +kernel
theorem dX6_count_149 : decode cX6_count 149 = .ok (.getfield 19, 3) := by decide +kernel
theorem dX6_count_152 : decode cX6_count 152 = .ok (.iconst 2, 1) := by decide +kernel
theorem dX6_count_153 : decode cX6_count 153 = .ok (.iaload, 1) := by decide +kernel
theorem dX6_count_154 : decode cX6_count 154 = .ok (.ireturn, 1) := by decide +kernel
theorem dX6_count_155 : decode cX6_count 155 = .ok (.iload_n 3, 1) := by decide +kernel
theorem dX6_count_156 : decode cX6_count 156 = .ok (.ireturn, 1) := by decide +kernel
theorem dX6_count_157 : decode cX6_count 157 = .ok (.aload_n 0, 1) := by decide +kernel
theorem dX6_count_158 : decode cX6_count 158 = .ok (.getfield 136, 3) := by decide +kernel
theorem dX6_count_161 : decode cX6_count 161 = .ok (.ireturn, 1) := by decide +kernel
theorem dX6_count_162 : decode cX6_count 162 = .ok (.aload_n 0, 1) := by decide +kernel
theorem dX6_count_163 : decode cX6_count 163 = .ok (.getfield 77, 3) := by decide +kernel
theorem dX6_count_166 : decode cX6_count 166 = .ok (.ireturn, 1) := by decide +kernel
theorem dX6_count_167 : decode cX6_count 167 = .ok (.ldc 67, 2) := by decide +kernel
theorem dX6_count_169 : decode cX6_count 169 = .ok (.ireturn, 1) := by decide +kernel
theorem dX6_status_0 : decode cX6_status 0 = .ok (.aload_n 0, 1) := by decide +kernel
theorem dX6_status_1 : decode cX6_status 1 = .ok (.getfield 50, 3) := by decide +kernel
theorem dX6_status_4 : decode cX6_status 4 = .ok (.ireturn, 1) := by decide +kernel
theorem dJ6_bitCount_0f7a4_0 : decode cJ6_bitCount_0f7a4 0 = .ok (.iload_n 0, 1) := by decide +kernel
theorem dJ6_bitCount_0f7a4_1 : decode cJ6_bitCount_0f7a4 1 = .ok (.iload_n 0, 1) := by decide +kernel
theorem dJ6_bitCount_0f7a4_2 : decode cJ6_bitCount_0f7a4 2 = .ok (.iconst 1, 1) := by decide +kernel
theorem dJ6_bitCount_0f7a4_3 : decode cJ6_bitCount_0f7a4 3 = .ok (.iushr, 1) := by decide +kernel
theorem dJ6_bitCount_0f7a4_4 : decode cJ6_bitCount_0f7a4 4 = .ok (.ldc_w 265, 3) := by decide +kernel
theorem dJ6_bitCount_0f7a4_7 : decode cJ6_bitCount_0f7a4 7 = .ok (.iand, 1) := by decide +kernel
theorem dJ6_bitCount_0f7a4_8 : decode cJ6_bitCount_0f7a4 8 = .ok (.isub, 1) := by decide +kernel
theorem dJ6_bitCount_0f7a4_9 : decode cJ6_bitCount_0f7a4 9 = .ok (.istore_n 0, 1) := by decide +kernel
theorem dJ6_bitCount_0f7a4_10 : decode cJ6_bitCount_0f7a4 10 = .ok (.iload_n 0, 1) := by decide +kernel
theorem dJ6_bitCount_0f7a4_11 : decode cJ6_bitCount_0f7a4 11 = .ok (.ldc_w 266, 3) := by decide +kernel
theorem dJ6_bitCount_0f7a4_14 : decode cJ6_bitCount_0f7a4 14 = .ok (.iand, 1) := by decide +kernel
theorem dJ6_bitCount_0f7a4_15 : decode cJ6_bitCount_0f7a4 15 = .ok (.iload_n 0, 1) := by decide +kernel
theorem dJ6_bitCount_0f7a4_16 : decode cJ6_bitCount_0f7a4 16 = .ok (.iconst 2, 1) := by decide +kernel
theorem dJ6_bitCount_0f7a4_17 : decode cJ6_bitCount_0f7a4 17 = .ok (.iushr, 1) := by decide +kernel
theorem dJ6_bitCount_0f7a4_18 : decode cJ6_bitCount_0f7a4 18 = .ok (.ldc_w 266, 3) := by decide +kernel
theorem dJ6_bitCount_0f7a4_21 : decode cJ6_bitCount_0f7a4 21 = .ok (.iand, 1) := by decide +kernel
theorem dJ6_bitCount_0f7a4_22 : decode cJ6_bitCount_0f7a4 22 = .ok (.iadd, 1) := by decide +kernel
theorem dJ6_bitCount_0f7a4_23 : decode cJ6_bitCount_0f7a4 23 = .ok (.istore_n 0, 1) := by decide +kernel
theorem dJ6_bitCount_0f7a4_24 : decode cJ6_bitCount_0f7a4 24 = .ok (.iload_n 0, 1) := by decide +kernel
theorem dJ6_bitCount_0f7a4_25 : decode cJ6_bitCount_0f7a4 25 = .ok (.iload_n 0, 1) := by decide +kernel
theorem dJ6_bitCount_0f7a4_26 : decode cJ6_bitCount_0f7a4 26 = .ok (.iconst 4, 1) := by decide +kernel
theorem dJ6_bitCount_0f7a4_27 : decode cJ6_bitCount_0f7a4 27 = .ok (.iushr, 1) := by decide +kernel
theorem dJ6_bitCount_0f7a4_28 : decode cJ6_bitCount_0f7a4 28 = .ok (.iadd, 1) := by decide +kernel
theorem dJ6_bitCount_0f7a4_29 : decode cJ6_bitCount_0f7a4 29 = .ok (.ldc_w 267, 3) := by decide +kernel
theorem dJ6_bitCount_0f7a4_32 : decode cJ6_bitCount_0f7a4 32 = .ok (.iand, 1) := by decide +kernel
theorem dJ6_bitCount_0f7a4_33 : decode cJ6_bitCount_0f7a4 33 = .ok (.istore_n 0, 1) := by decide +kernel
theorem dJ6_bitCount_0f7a4_34 : decode cJ6_bitCount_0f7a4 34 = .ok (.iload_n 0, 1) := by decide +kernel
theorem dJ6_bitCount_0f7a4_35 : decode cJ6_bitCount_0f7a4 35 = .ok (.iload_n 0, 1) := by decide +kernel
theorem dJ6_bitCount_0f7a4_36 : decode cJ6_bitCount_0f7a4 36 = .ok (.bipush 8, 2) := by decide +kernel
theorem dJ6_bitCount_0f7a4_38 : decode cJ6_bitCount_0f7a4 38 = .ok (.iushr, 1) := by decide +kernel
theorem dJ6_bitCount_0f7a4_39 : decode cJ6_bitCount_0f7a4 39 = .ok (.iadd, 1) := by decide +kernel
theorem dJ6_bitCount_0f7a4_40 : decode cJ6_bitCount_0f7a4 40 = .ok (.istore_n 0, 1) := by decide +kernel
theorem dJ6_bitCount_0f7a4_41 : decode cJ6_bitCount_0f7a4 41 = .ok (.iload_n 0, 1) := by decide +kernel
theorem dJ6_bitCount_0f7a4_42 : decode cJ6_bitCount_0f7a4 42 = .ok (.iload_n 0, 1) := by decide +kernel
theorem dJ6_bitCount_0f7a4_43 : decode cJ6_bitCount_0f7a4 43 = .ok (.bipush 16, 2) := by decide +kernel
theorem dJ6_bitCount_0f7a4_45 : decode cJ6_bitCount_0f7a4 45 = .ok (.iushr, 1) := by decide +kernel
theorem dJ6_bitCount_0f7a4_46 : decode cJ6_bitCount_0f7a4 46 = .ok (.iadd, 1) := by decide +kernel
theorem dJ6_bitCount_0f7a4_47 : decode cJ6_bitCount_0f7a4 47 = .ok (.istore_n 0, 1) := by decide +kernel
theorem dJ6_bitCount_0f7a4_48 : decode cJ6_bitCount_0f7a4 48 = .ok (.iload_n 0, 1) := by decide +kernel
theorem dJ6_bitCount_0f7a4_49 : decode cJ6_bitCount_0f7a4 49 = .ok (.bipush 63, 2) := by decide +kernel
theorem dJ6_bitCount_0f7a4_51 : decode cJ6_bitCount_0f7a4 51 = .ok (.iand, 1) := by decide +kernel
theorem dJ6_bitCount_0f7a4_52 : decode cJ6_bitCount_0f7a4 52 = .ok (.ireturn, 1) := by decide +kernel
end
section
/-! ===== states ===== -/
def up2 (S : Nat → Nat → Int32) (k : Nat) (f : Nat → Int32) : Nat → Nat → Int32 := fun j => cond (Nat.beq j k) f (S j)
def up3 (S : Nat → Nat → Nat → Int32) (c : Nat) (X : Nat → Nat → Int32) : Nat → Nat → Nat → Int32 := fun j => cond (Nat.beq j c) X (S j)
abbrev k1 (v : Int32) : Nat → Int32 := fun _ => v
def bB (b : Bool) : Int32 := cond b 1 0
theorem bB_nar (b : Bool) : narrow .boolean (.int (bB b)) = .int (bB b) := by cases b <;> rfl
theorem bB_f {b : Bool} (h : bB b = 0) : b = false := by cases b <;> simp_all [bB]
theorem bB_t {b : Bool} (h : ¬ bB b = 0) : b = true := by cases b <;> simp_all [bB]
def rmI (x y : Int32) : Int32 := x - x / y * y
def rmL (x y : Int64) : Int64 := x - x / y * y
def absI (x : Int32) : Int32 := if 0 ≤ x then x else 0 - x
theorem abs_s : Cond.static Lib.Math.abs.name ∈ TT := TT_mem 414 (by decide +kernel) rfl
theorem abs_i : Cond.initialized "java/lang/Math" ∈ TT := tw_9
theorem abs_c : Cond.code Lib.Math.abs.name Lib.Math.abs.code 1 (some .int) ∈ TT := TT_mem 415 (by decide +kernel) rfl
theorem cpy_n : Cond.native arraycopyName ∈ TT := TT_mem 244 (by decide +kernel) rfl
theorem cpy_s : Cond.static arraycopyName ∈ TT := TT_mem 243 (by decide +kernel) rfl
theorem cpy_i : Cond.initialized "java/lang/System" ∈ TT := tw_8
def wF (o : Nat) (F : Nat → Nat → Int32) : List xE := [.inr (1, [.ref (o + 1), .ref (o + 2), .ref (o + 3), .ref (o + 4), .ref (o + 5), .int (F 5 0), .int (F 6 0), .int (F 7 0), .int (F 8 0), .int (F 9 0), .int (F 10 0)]), .inl (0, 6, .inl (F 0)), .inl (0, 6, .inl (F 1)), .inl (0, 6, .inl (F 2)), .inl (0, 6, .inl (F 3)), .inl (0, 6, .inl (F 4))]
def wA (o : Nat) (A : Nat → Nat → Int32) : List xE := [.inr (0, [.ref (o + 1), .ref (o + 2), .ref (o + 3), .ref (o + 4), .int (A 4 0), .int (A 5 0)]), .inl (0, 24, .inl (A 0)), .inl (0, 24, .inl (A 1)), .inl (0, 24, .inl (A 2)), .inl (0, 24, .inl (A 3))]
def wO (o : Nat) (O : Nat → Nat → Int32) : List xE := [.inr (2, [.ref (o + 1), .ref (o + 2), .ref (o + 3), .int (O 3 0)]), .inl (0, 360, .inl (O 0)), .inl (0, 360, .inl (O 1)), .inl (0, 6, .inl (O 2))]
def wR (o : Nat) (X : Nat → Nat → Int32) : List xE := [.inr (3, [.ref (o + 1), .int (X 1 0), .int (X 2 0)]), .inl (0, 40, .inl (X 0))]
def wT (o : Nat) (T : Nat → Nat → Int32) : List xE := [.inr (4, [.ref (o + 1), .int (T 1 0), .int (T 2 0), .int (T 3 0)]), .inl (0, 120, .inl (T 0))]
def wM (M : Nat → Nat → Int32) : List xE := [.inr (6, [.ref 1, .ref 2, .ref 3, .int (M 3 0), .ref 4, .ref 5, .ref 6, .ref 7, .int (M 8 0), .ref 8, .ref 9, .ref 10, .int (M 12 0), .int (M 13 0), .ref 11, .int (M 15 0), .int (M 16 0), .int (M 17 0), .int (M 18 0), .int (M 19 0), .int (M 20 0), .ref 12, .ref 13]), .inl (0, 8, .inl (M 0)), .inl (0, 8, .inl (M 1)), .inl (0, 320, .inl (M 2)), .inl (0, 36, .inl (M 4)), .inl (0, 36, .inl (M 5)), .inl (0, 36, .inl (M 6)), .inl (0, 864, .inl (M 7)), .inl (0, 72, .inl (M 9)), .inl (1, 2, .inl (M 10)), .inl (0, 120, .inl (M 11)), .inl (0, 16, .inl (M 14)), .inl (0, 6, .inl (M 21)), .inl (0, 6, .inl (M 22))]
theorem nI_sum {a b : Int32} {m n : Nat} (ha : a = nI m) (hb : b = nI n) : a + b = nI (m + n) := by rw [ha, hb, nI_add]
theorem nI_prod {a b : Int32} {m n : Nat} (ha : a = nI m) (hb : b = nI n) : a * b = nI (m * n) := by rw [ha, hb, pk_mul]
end
section
/-! ===== what a forest answers ===== -/
def okW (F : Nat → Nat → Int32) : Prop := ∀ h, h < 6 → ∃ w, w ≤ 5 ∧ F 4 h = nI w
theorem sw_ne {sw : Int32} (h : ∃ w, w ≤ 5 ∧ sw = nI w) (hp : 0 < sw) : ¬ 4 * sw = 0 := by
  obtain ⟨w, hw, rfl⟩ := h
  revert hp
  have : ∀ w, w < 6 → 0 < nI w → ¬ 4 * nI w = 0 := by decide +kernel
  exact this w (by omega)
def swS (sw t : Int32) : Int32 := if 0 < sw then (if sw < rmI t (4 * sw) then (if 3 * sw < rmI t (4 * sw) then rmI t (4 * sw) - 4 * sw else 2 * sw - rmI t (4 * sw)) else rmI t (4 * sw)) else 0
def cutS (F : Nat → Nat → Int32) (h : Nat) : Bool := decide ((F 10 0 >>> (nI h &&& 31)) &&& 1 = 1)
def dipS (F : Nat → Nat → Int32) (h : Nat) (t : Int32) : Int32 := if F 0 h = 2 then (F 3 h + (F 2 h - F 1 h) / 2) / 2 else if F 0 h = 3 then (F 3 h + (F 2 h - F 1 h) / 2) + t / 10 else if F 0 h = 4 then F 2 h - F 1 h else if F 0 h = 5 then 0 else F 3 h + (F 2 h - F 1 h) / 2
def downS (F : Nat → Nat → Int32) (h : Nat) (t : Int32) : Bool := cutS F h || !decide (dipS F h t ≤ F 6 0)
def offS (F : Nat → Nat → Int32) (h : Nat) (t : Int32) : Int32 := if F 0 h = 3 then swS (F 4 h) (t / 2) else if F 0 h = 4 then 0 else if F 0 h = 5 then F 4 h else swS (F 4 h) t
def plS (F : Nat → Nat → Int32) (h : Nat) (t : Int32) : Int32 := F 1 h + F 2 h + 2 * offS F h t
def spS (F : Nat → Nat → Int32) (h : Nat) (t : Int32) : Int32 := if downS F h t then -1000 else plS F h t
def nrS (F : Nat → Nat → Int32) (a b : Int32) : Bool := !decide (a = -1000) && !decide (b = -1000) && !decide (2 * F 7 0 < absI (a - b))
def bitsS (p : Nat → Bool) : Nat → Int32
  | 0 => 0
  | n + 1 => if p n then bitsS p n ||| (1 <<< (nI n &&& 31)) else bitsS p n
def begS (F : Nat → Nat → Int32) : Nat → Nat → Int32 := up2 (up2 (up2 (up2 F 5 (k1 1)) 8 (k1 0)) 9 (k1 0)) 10 (k1 0)
/-- the first six of f, then those of g -/
def cp6 (f g : Nat → Int32) : Nat → Int32 := va_cpy f g 0 0 6
def tkS (F P : Nat → Nat → Int32) : Nat → Nat → Int32 := fun k => match k with
  | 0 => cp6 (P 0) (F 0)
  | 1 => cp6 (P 1) (F 1)
  | 2 => cp6 (P 2) (F 2)
  | 3 => cp6 (P 3) (F 3)
  | 4 => cp6 (P 4) (F 4)
  | 5 => k1 (P 5 0)
  | 6 => k1 (P 6 0)
  | 7 => k1 (P 7 0)
  | 8 => k1 (P 8 0)
  | 9 => k1 (P 9 0)
  | 10 => k1 (P 10 0)
  | k => F k
end
section
/-! ===== the reference's words ===== -/
def vw (t : Nat → Int32) : Nat → Nat → Int32 := fun k h => match k with
  | 0 => t (4 + h)
  | 1 => t (10 + h)
  | 2 => t (16 + h)
  | 3 => t (22 + h)
  | 4 => t (28 + h)
  | 5 => t 3
  | 6 => t 1
  | 7 => t 2
  | 8 => t 35
  | 9 => t 0
  | _ => t 34
def inS (v l m : Int64) : Bool := !decide (v < l) && !decide (m < v)
def inI (v l m : Int32) : Bool := decide (l ≤ v) && decide (v ≤ m)
theorem in_I (v l m : Int32) {L M : Int64} (hl : l.toInt64 = L) (hm : m.toInt64 = M) : inS v.toInt64 L M = inI v l m := by
  subst hl; subst hm
  unfold inS inI
  simp only [Int64.lt_iff_toInt_lt, Int32.toInt_toInt64, Int32.le_iff_toInt_le]
  congr 1 <;> simp [← Int.not_lt]
def hasS (s i : Int32) : Bool := decide ((s >>> (i &&& 31)) &&& 1 = 1)
def okK (F : Nat → Nat → Int32) (h : Nat) : Prop := F 0 h = 1 ∨ F 0 h = 2 ∨ F 0 h = 3 ∨ F 0 h = 4 ∨ F 0 h = 5
theorem sw0 {sw : Int32} (h : ∃ w, w ≤ 5 ∧ sw = nI w) : (sw = 0 → ¬ 0 < sw) ∧ (¬ sw = 0 → 0 < sw ∧ ¬ 4 * sw = 0) := by
  obtain ⟨w, hw, rfl⟩ := h
  have : ∀ w, w < 6 → (nI w = 0 → ¬ 0 < nI w) ∧ (¬ nI w = 0 → 0 < nI w ∧ ¬ 4 * nI w = 0) := by decide +kernel
  exact this w (by omega)
def nrM (F : Nat → Nat → Int32) (i e : Nat) (t : Int32) : Bool := !decide (i = e) && (!downS F i t && (!downS F e t && (!decide (2 * F 7 0 < plS F i t - plS F e t) && !decide (2 * F 7 0 < -(plS F i t - plS F e t)))))
def moreS (reach : Nat → Int32) (set : Int32) : Nat → Int32
  | 0 => 0
  | i + 1 => moreS reach set i ||| (if hasS set (nI i) then reach i else 0)
def reachM (F : Nat → Nat → Int32) (z i : Nat) (t : Int32) : Int32 := bitsS (fun e => nrM F i e t) z
def setM (F : Nat → Nat → Int32) (z : Nat) (a : Int32) : Nat → Int32
  | 0 => 1 <<< (a &&& 31)
  | k + 1 => setM F z a k ||| moreS (fun i => reachM F z i (F 8 0 + nI k)) (setM F z a k) z
def soonFrom (has : Nat → Bool) : Nat → Nat → Int32
  | 0, _ => 1000000
  | n + 1, k => if has k then nI k else soonFrom has n (k + 1)
def soonM (F : Nat → Nat → Int32) (z : Nat) (a b : Int32) : Int32 := soonFrom (fun k => hasS (setM F z a k) b) 61 0
def sortM (l : Int32) : Int32 := if l = 99 then 1 else if l = 115 then 2 else if l = 118 then 3 else if l = 114 then 4 else if l = 111 then 5 else 0
def toldM (v : Int32) : Int32 := if v < 1000000 then v else -1000000
def isOfM (own kind : Int32) : Bool := decide (kind = 0) || (decide (own = kind) || ((decide (kind = 1) && (decide (own = 2) || decide (own = 3))) || (decide (kind = 4) && decide (own = 5))))
theorem cut_has (F : Nat → Nat → Int32) (h : Nat) : cutS F h = hasS (F 10 0) (nI h) := rfl
theorem cpy_zero (f u : Nat → Int32) (i j : Nat) : va_cpy f u i j 0 = u := by
  funext q
  unfold va_cpy
  rw [if_neg (by omega)]
theorem cpy_step (f u : Nat → Int32) (i j k : Nat) : upd (va_cpy f u i j k) (j + k) (f (i + k)) = va_cpy f u i j (k + 1) := by
  funext q
  unfold upd va_cpy
  by_cases h : q = j + k
  · subst h
    rw [if_pos rfl, if_pos (by omega)]
    congr 1
    omega
  · rw [if_neg h]
    by_cases h2 : j ≤ q ∧ q < j + k
    · rw [if_pos h2, if_pos (by omega)]
    · rw [if_neg h2, if_neg (by omega)]
end
section
def rmX1_swung : Room := { frames := 0, cells := 0, slots := 0, locals := 0 }
def rmX1_isCut : Room := { frames := 0, cells := 0, slots := 0, locals := 0 }
def rmX1_dip : Room := { frames := 0, cells := 0, slots := 0, locals := 0 }
def rmX1_isDown : Room := { frames := 1, cells := 0, slots := 0, locals := 24 }
def rmX1_offset : Room := { frames := 1, cells := 0, slots := 0, locals := 22 }
def rmX1_place : Room := { frames := 2, cells := 0, slots := 0, locals := 44 }
def rmX1_spot : Room := { frames := 3, cells := 0, slots := 0, locals := 66 }
def rmX1_areNear : Room := { frames := 1, cells := 0, slots := 0, locals := 30 }
def rmX1_downBits : Room := { frames := 2, cells := 0, slots := 0, locals := 46 }
def rmX1_nearBits : Room := { frames := 4, cells := 0, slots := 0, locals := 88 }
def rmX1_begin : Room := { frames := 0, cells := 0, slots := 0, locals := 0 }
def rmX1_takeFrom : Room := { frames := 1, cells := 0, slots := 0, locals := 60 }
set_option maxHeartbeats 4000000 in
set_option maxRecDepth 100000 in
theorem c_X1_swung (sw t : Int32) (hw : ∃ w, w ≤ 5 ∧ sw = nI w) : MetA yX1_swung (.code yX1_swung cX1_swung 3 (some .int) :: TT) rmX1_swung [.int sw, .int t] ([]) (fun vr wr => vr = some (.int (swS sw t)) ∧ wr = []) 0 0 := by
  refine MetA.of_i (by decide) (fun _ => Nat.le_of_ble_eq_true rfl) (Nat.le_of_ble_eq_true rfl) (fun g C E => ?_)
  replace C : Sem cX1_swung RX1 "swung" 3 rmX1_swung g := C
  show g 0 0 ([]) 0 [some (.int sw), some (.int t), none] []
  refine r_iload_n (pc := 0) C dX1_swung_0 rfl rfl ?_
  refine r_if_gt (pc := 1) (tgt := 6) C dX1_swung_1 (by decide) (fun h_1 => ?_) (fun h_1 => ?_)
  · skip
    refine r_iload_n (pc := 6) C dX1_swung_6 rfl rfl ?_
    refine r_iconst (pc := 7) (v := 4) C dX1_swung_7 (by decide) ?_
    refine r_iload_n (pc := 8) C dX1_swung_8 rfl rfl ?_
    refine r_imul (pc := 9) C dX1_swung_9 ?_
    refine r_irem (pc := 10) C dX1_swung_10 (sw_ne hw h_1) ?_
    show g 0 0 ([]) 11 [some (.int sw), some (.int t), none] [.int (rmI t (4 * sw))]
    refine r_istore_n (pc := 11) (lv' := [some (.int sw), some (.int t), some (.int (rmI t (4 * sw)))]) C dX1_swung_11 rfl (Nat.le_of_ble_eq_true rfl) trivial rfl ?_
    refine r_iload_n (pc := 12) C dX1_swung_12 rfl rfl ?_
    refine r_iload_n (pc := 13) C dX1_swung_13 rfl rfl ?_
    refine r_icmp_gt (pc := 14) (tgt := 19) C dX1_swung_14 (by decide) (fun h_14 => ?_) (fun h_14 => ?_)
    · skip
      refine r_iload_n (pc := 19) C dX1_swung_19 rfl rfl ?_
      refine r_iconst (pc := 20) (v := 3) C dX1_swung_20 (by decide) ?_
      refine r_iload_n (pc := 21) C dX1_swung_21 rfl rfl ?_
      refine r_imul (pc := 22) C dX1_swung_22 ?_
      refine r_icmp_gt (pc := 23) (tgt := 34) C dX1_swung_23 (by decide) (fun h_23 => ?_) (fun h_23 => ?_)
      · skip
        refine r_iload_n (pc := 34) C dX1_swung_34 rfl rfl ?_
        refine r_iconst (pc := 35) (v := 4) C dX1_swung_35 (by decide) ?_
        refine r_iload_n (pc := 36) C dX1_swung_36 rfl rfl ?_
        refine r_imul (pc := 37) C dX1_swung_37 ?_
        refine r_isub (pc := 38) C dX1_swung_38 ?_
        exact E _ _ _ _ _ _ dX1_swung_39 (Nat.le_refl _) (Nat.le_refl _) rfl ⟨congrArg (fun z => some (Value.int z)) (by simp [swS, h_1, h_14, h_23]), rfl⟩
      · skip
        refine r_iconst (pc := 26) (v := 2) C dX1_swung_26 (by decide) ?_
        refine r_iload_n (pc := 27) C dX1_swung_27 rfl rfl ?_
        refine r_imul (pc := 28) C dX1_swung_28 ?_
        refine r_iload_n (pc := 29) C dX1_swung_29 rfl rfl ?_
        refine r_isub (pc := 30) C dX1_swung_30 ?_
        refine r_goto (pc := 31) (tgt := 39) C dX1_swung_31 (by decide) ?_
        exact E _ _ _ _ _ _ dX1_swung_39 (Nat.le_refl _) (Nat.le_refl _) rfl ⟨congrArg (fun z => some (Value.int z)) (by simp [swS, h_1, h_14, h_23]), rfl⟩
    · skip
      refine r_iload_n (pc := 17) C dX1_swung_17 rfl rfl ?_
      exact E _ _ _ _ _ _ dX1_swung_18 (Nat.le_refl _) (Nat.le_refl _) rfl ⟨congrArg (fun z => some (Value.int z)) (by simp [swS, h_1, h_14]), rfl⟩
  · skip
    refine r_iconst (pc := 4) (v := 0) C dX1_swung_4 (by decide) ?_
    exact E _ _ _ _ _ _ dX1_swung_5 (Nat.le_refl _) (Nat.le_refl _) rfl ⟨congrArg (fun z => some (Value.int z)) (by simp [swS, h_1]), rfl⟩
set_option maxHeartbeats 4000000 in
set_option maxRecDepth 100000 in
theorem c_X1_isCut (F : Nat → Nat → Int32) (h : Nat) (hh : h < 6) : MetA yX1_isCut (.code yX1_isCut cX1_isCut 2 (some .boolean) :: TT) rmX1_isCut [.ref 0, .int (nI h)] (wF 0 F) (fun vr wr => vr = some (.int (bB (cutS F h))) ∧ wr = wF 0 F) 0 0 := by
  refine MetA.of_i (by decide) (fun _ => Nat.le_of_ble_eq_true rfl) (Nat.le_of_ble_eq_true rfl) (fun g C E => ?_)
  replace C : Sem cX1_isCut RX1 "isCut" 2 rmX1_isCut g := C
  show g 0 0 (wF 0 F) 0 [some (.ref 0), some (.int (nI h))] []
  refine r_aload_n (pc := 0) C dX1_isCut_0 rfl rfl ?_
  refine r_getfield (pc := 1) (v := .int (F 10 0)) C xf_X1_38 dX1_isCut_1 rfl rfl ?_
  refine r_iload_n (pc := 4) C dX1_isCut_4 rfl rfl ?_
  refine r_ishr (pc := 5) C dX1_isCut_5 ?_
  refine r_iconst (pc := 6) (v := 1) C dX1_isCut_6 (by decide) ?_
  refine r_iand (pc := 7) C dX1_isCut_7 ?_
  refine r_iconst (pc := 8) (v := 1) C dX1_isCut_8 (by decide) ?_
  refine r_icmp_ne (pc := 9) (tgt := 16) C dX1_isCut_9 (by decide) (fun h_9 => ?_) (fun h_9 => ?_)
  · skip
    refine r_iconst (pc := 16) (v := 0) C dX1_isCut_16 (by decide) ?_
    exact E _ _ _ _ _ _ dX1_isCut_17 (Nat.le_refl _) (Nat.le_refl _) rfl ⟨congrArg (fun z => some (Value.int z)) (by simp [cutS, bB, h_9]), rfl⟩
  · skip
    refine r_iconst (pc := 12) (v := 1) C dX1_isCut_12 (by decide) ?_
    refine r_goto (pc := 13) (tgt := 17) C dX1_isCut_13 (by decide) ?_
    exact E _ _ _ _ _ _ dX1_isCut_17 (Nat.le_refl _) (Nat.le_refl _) rfl ⟨congrArg (fun z => some (Value.int z)) (by simp [cutS, bB, h_9]), rfl⟩
set_option maxHeartbeats 4000000 in
set_option maxRecDepth 100000 in
theorem c_X1_dip (F : Nat → Nat → Int32) (h : Nat) (hh : h < 6) (t : Int32) : MetA yX1_dip (.code yX1_dip cX1_dip 5 (some .int) :: TT) rmX1_dip [.ref 0, .int (nI h), .int t] (wF 0 F) (fun vr wr => vr = some (.int (dipS F h t)) ∧ wr = wF 0 F) 0 0 := by
  refine MetA.of_i (by decide) (fun _ => Nat.le_of_ble_eq_true rfl) (Nat.le_of_ble_eq_true rfl) (fun g C E => ?_)
  replace C : Sem cX1_dip RX1 "dip" 5 rmX1_dip g := C
  show g 0 0 (wF 0 F) 0 [some (.ref 0), some (.int (nI h)), some (.int t), none, none] []
  refine r_aload_n (pc := 0) C dX1_dip_0 rfl rfl ?_
  refine r_getfield (pc := 1) (v := .ref 3) C xf_X1_18 dX1_dip_1 rfl rfl ?_
  refine r_iload_n (pc := 4) C dX1_dip_4 rfl rfl ?_
  refine r_iaload (pc := 5) (v := F 2 h) C h dX1_dip_5 rfl rfl (by first | assumption | omega) rfl ?_
  refine r_aload_n (pc := 6) C dX1_dip_6 rfl rfl ?_
  refine r_getfield (pc := 7) (v := .ref 2) C xf_X1_15 dX1_dip_7 rfl rfl ?_
  refine r_iload_n (pc := 10) C dX1_dip_10 rfl rfl ?_
  refine r_iaload (pc := 11) (v := F 1 h) C h dX1_dip_11 rfl rfl (by first | assumption | omega) rfl ?_
  refine r_isub (pc := 12) C dX1_dip_12 ?_
  refine r_istore_n (pc := 13) (lv' := [some (.ref 0), some (.int (nI h)), some (.int t), some (.int ((F 2 h) - (F 1 h))), none]) C dX1_dip_13 rfl (Nat.le_of_ble_eq_true rfl) trivial rfl ?_
  refine r_aload_n (pc := 14) C dX1_dip_14 rfl rfl ?_
  refine r_getfield (pc := 15) (v := .ref 4) C xf_X1_21 dX1_dip_15 rfl rfl ?_
  refine r_iload_n (pc := 18) C dX1_dip_18 rfl rfl ?_
  refine r_iaload (pc := 19) (v := F 3 h) C h dX1_dip_19 rfl rfl (by first | assumption | omega) rfl ?_
  refine r_iload_n (pc := 20) C dX1_dip_20 rfl rfl ?_
  refine r_iconst (pc := 21) (v := 2) C dX1_dip_21 (by decide) ?_
  refine r_idiv (pc := 22) C dX1_dip_22 (by decide) ?_
  refine r_iadd (pc := 23) C dX1_dip_23 ?_
  refine r_istore (pc := 24) (lv' := [some (.ref 0), some (.int (nI h)), some (.int t), some (.int ((F 2 h) - (F 1 h))), some (.int ((F 3 h) + (((F 2 h) - (F 1 h)) / 2)))]) C dX1_dip_24 (Nat.le_of_ble_eq_true rfl) trivial rfl ?_
  refine r_aload_n (pc := 26) C dX1_dip_26 rfl rfl ?_
  refine r_getfield (pc := 27) (v := .ref 1) C xf_X1_9 dX1_dip_27 rfl rfl ?_
  refine r_iload_n (pc := 30) C dX1_dip_30 rfl rfl ?_
  refine r_iaload (pc := 31) (v := F 0 h) C h dX1_dip_31 rfl rfl (by first | assumption | omega) rfl ?_
  by_cases q_32_2 : F 0 h = 2
  · refine r_tableIn (pc := 32) (off := 32) (tgt := 64) C dX1_dip_32 (by rw [q_32_2]; decide) (by rw [q_32_2]; decide) (by rw [q_32_2]; rfl) (by decide) ?_
    refine r_iload (pc := 64) C dX1_dip_64 rfl ?_
    refine r_iconst (pc := 66) (v := 2) C dX1_dip_66 (by decide) ?_
    refine r_idiv (pc := 67) C dX1_dip_67 (by decide) ?_
    exact E _ _ _ _ _ _ dX1_dip_68 (Nat.le_refl _) (Nat.le_refl _) rfl ⟨congrArg (fun z => some (Value.int z)) (by simp [dipS, q_32_2]), rfl⟩
  by_cases q_32_3 : F 0 h = 3
  · refine r_tableIn (pc := 32) (off := 37) (tgt := 69) C dX1_dip_32 (by rw [q_32_3]; decide) (by rw [q_32_3]; decide) (by rw [q_32_3]; rfl) (by decide) ?_
    refine r_iload (pc := 69) C dX1_dip_69 rfl ?_
    refine r_iload_n (pc := 71) C dX1_dip_71 rfl rfl ?_
    refine r_bipush (pc := 72) (v := 10) C dX1_dip_72 (by decide) ?_
    refine r_idiv (pc := 74) C dX1_dip_74 (by decide) ?_
    refine r_iadd (pc := 75) C dX1_dip_75 ?_
    exact E _ _ _ _ _ _ dX1_dip_76 (Nat.le_refl _) (Nat.le_refl _) rfl ⟨congrArg (fun z => some (Value.int z)) (by simp [dipS, q_32_2, q_32_3]), rfl⟩
  by_cases q_32_4 : F 0 h = 4
  · refine r_tableIn (pc := 32) (off := 45) (tgt := 77) C dX1_dip_32 (by rw [q_32_4]; decide) (by rw [q_32_4]; decide) (by rw [q_32_4]; rfl) (by decide) ?_
    refine r_iload_n (pc := 77) C dX1_dip_77 rfl rfl ?_
    exact E _ _ _ _ _ _ dX1_dip_78 (Nat.le_refl _) (Nat.le_refl _) rfl ⟨congrArg (fun z => some (Value.int z)) (by simp [dipS, q_32_2, q_32_3, q_32_4]), rfl⟩
  by_cases q_32_5 : F 0 h = 5
  · refine r_tableIn (pc := 32) (off := 47) (tgt := 79) C dX1_dip_32 (by rw [q_32_5]; decide) (by rw [q_32_5]; decide) (by rw [q_32_5]; rfl) (by decide) ?_
    refine r_iconst (pc := 79) (v := 0) C dX1_dip_79 (by decide) ?_
    exact E _ _ _ _ _ _ dX1_dip_80 (Nat.le_refl _) (Nat.le_refl _) rfl ⟨congrArg (fun z => some (Value.int z)) (by simp [dipS, q_32_2, q_32_3, q_32_4, q_32_5]), rfl⟩
  refine r_tableOut (pc := 32) (tgt := 81) C dX1_dip_32 (by have t_2 := lv_neT (a := 2) q_32_2 rfl; have t_3 := lv_neT (a := 3) q_32_3 rfl; have t_4 := lv_neT (a := 4) q_32_4 rfl; have t_5 := lv_neT (a := 5) q_32_5 rfl; omega) (by decide) ?_
  refine r_iload (pc := 81) C dX1_dip_81 rfl ?_
  exact E _ _ _ _ _ _ dX1_dip_83 (Nat.le_refl _) (Nat.le_refl _) rfl ⟨congrArg (fun z => some (Value.int z)) (by simp [dipS, q_32_2, q_32_3, q_32_4, q_32_5]), rfl⟩
set_option maxHeartbeats 4000000 in
set_option maxRecDepth 100000 in
theorem c_X1_isDown (F : Nat → Nat → Int32) (h : Nat) (hh : h < 6) (t : Int32) : MetA yX1_isDown (.code yX1_isDown cX1_isDown 3 (some .boolean) :: TT) rmX1_isDown [.ref 0, .int (nI h), .int t] (wF 0 F) (fun vr wr => vr = some (.int (bB (downS F h t))) ∧ wr = wF 0 F) 0 0 := by
  refine MetA.of_i (by decide) (fun _ => Nat.le_of_ble_eq_true rfl) (Nat.le_of_ble_eq_true rfl) (fun g C E => ?_)
  replace C : Sem cX1_isDown RX1 "isDown" 3 rmX1_isDown g := C
  show g 0 0 (wF 0 F) 0 [some (.ref 0), some (.int (nI h)), some (.int t)] []
  refine r_aload_n (pc := 0) C dX1_isDown_0 rfl rfl ?_
  refine r_iload_n (pc := 1) C dX1_isDown_1 rfl rfl ?_
  refine r_callV0 (pc := 2) (As := [.int (nI h)]) (st := []) (θ' := wF 0 F) C (c_X1_isCut F h (by omega)) xm_X1_isCut xk_X1_53 dX1_isDown_2 rfl rfl rfl rfl (Nat.le_of_ble_eq_true rfl) ⟨Nat.le_of_ble_eq_true rfl, Nat.le_of_ble_eq_true rfl⟩ ⟨rfl, rfl⟩ ⟨Nat.le_of_ble_eq_true rfl, Nat.le_of_ble_eq_true rfl⟩ rfl rfl ?_
  show g 0 0 (wF 0 F) 5 [some (.ref 0), some (.int (nI h)), some (.int t)] [.int (bB (cutS F h))]
  refine r_if_ne (pc := 5) (tgt := 21) C dX1_isDown_5 (by decide) (fun h_5 => ?_) (fun h_5 => ?_)
  · replace h_5 := bB_t h_5
    refine r_iconst (pc := 21) (v := 1) C dX1_isDown_21 (by decide) ?_
    refine r_goto (pc := 22) (tgt := 26) C dX1_isDown_22 (by decide) ?_
    exact E _ _ _ _ _ _ dX1_isDown_26 (Nat.le_refl _) (Nat.le_refl _) rfl ⟨congrArg (fun z => some (Value.int z)) (by simp [downS, bB, h_5]), rfl⟩
  · replace h_5 := bB_f h_5
    refine r_aload_n (pc := 8) C dX1_isDown_8 rfl rfl ?_
    refine r_iload_n (pc := 9) C dX1_isDown_9 rfl rfl ?_
    refine r_iload_n (pc := 10) C dX1_isDown_10 rfl rfl ?_
    refine r_callV0 (pc := 11) (As := [.int (nI h), .int t]) (st := []) (θ' := wF 0 F) C (c_X1_dip F h (by omega) t) xm_X1_dip xk_X1_57 dX1_isDown_11 rfl rfl rfl rfl (Nat.le_of_ble_eq_true rfl) ⟨Nat.le_of_ble_eq_true rfl, Nat.le_of_ble_eq_true rfl⟩ ⟨rfl, rfl⟩ ⟨Nat.le_of_ble_eq_true rfl, Nat.le_of_ble_eq_true rfl⟩ rfl rfl ?_
    show g 0 0 (wF 0 F) 14 [some (.ref 0), some (.int (nI h)), some (.int t)] [.int (dipS F h t)]
    refine r_aload_n (pc := 14) C dX1_isDown_14 rfl rfl ?_
    refine r_getfield (pc := 15) (v := .int (F 6 0)) C xf_X1_47 dX1_isDown_15 rfl rfl ?_
    refine r_icmp_le (pc := 18) (tgt := 25) C dX1_isDown_18 (by decide) (fun h_18 => ?_) (fun h_18 => ?_)
    · skip
      refine r_iconst (pc := 25) (v := 0) C dX1_isDown_25 (by decide) ?_
      exact E _ _ _ _ _ _ dX1_isDown_26 (Nat.le_refl _) (Nat.le_refl _) rfl ⟨congrArg (fun z => some (Value.int z)) (by simp [downS, bB, h_5, h_18]), rfl⟩
    · skip
      refine r_iconst (pc := 21) (v := 1) C dX1_isDown_21 (by decide) ?_
      refine r_goto (pc := 22) (tgt := 26) C dX1_isDown_22 (by decide) ?_
      exact E _ _ _ _ _ _ dX1_isDown_26 (Nat.le_refl _) (Nat.le_refl _) rfl ⟨congrArg (fun z => some (Value.int z)) (by simp [downS, bB, h_5, h_18]), rfl⟩
set_option maxHeartbeats 4000000 in
set_option maxRecDepth 100000 in
theorem c_X1_offset (F : Nat → Nat → Int32) (h : Nat) (hh : h < 6) (t : Int32) (hW : okW F) : MetA yX1_offset (.code yX1_offset cX1_offset 3 (some .int) :: TT) rmX1_offset [.ref 0, .int (nI h), .int t] (wF 0 F) (fun vr wr => vr = some (.int (offS F h t)) ∧ wr = wF 0 F) 0 0 := by
  refine MetA.of_i (by decide) (fun _ => Nat.le_of_ble_eq_true rfl) (Nat.le_of_ble_eq_true rfl) (fun g C E => ?_)
  replace C : Sem cX1_offset RX1 "offset" 3 rmX1_offset g := C
  show g 0 0 (wF 0 F) 0 [some (.ref 0), some (.int (nI h)), some (.int t)] []
  refine r_aload_n (pc := 0) C dX1_offset_0 rfl rfl ?_
  refine r_getfield (pc := 1) (v := .ref 1) C xf_X1_9 dX1_offset_1 rfl rfl ?_
  refine r_iload_n (pc := 4) C dX1_offset_4 rfl rfl ?_
  refine r_iaload (pc := 5) (v := F 0 h) C h dX1_offset_5 rfl rfl (by first | assumption | omega) rfl ?_
  by_cases q_6_3 : F 0 h = 3
  · refine r_tableIn (pc := 6) (off := 26) (tgt := 32) C dX1_offset_6 (by rw [q_6_3]; decide) (by rw [q_6_3]; decide) (by rw [q_6_3]; rfl) (by decide) ?_
    refine r_aload_n (pc := 32) C dX1_offset_32 rfl rfl ?_
    refine r_getfield (pc := 33) (v := .ref 5) C xf_X1_24 dX1_offset_33 rfl rfl ?_
    refine r_iload_n (pc := 36) C dX1_offset_36 rfl rfl ?_
    refine r_iaload (pc := 37) (v := F 4 h) C h dX1_offset_37 rfl rfl (by first | assumption | omega) rfl ?_
    refine r_iload_n (pc := 38) C dX1_offset_38 rfl rfl ?_
    refine r_iconst (pc := 39) (v := 2) C dX1_offset_39 (by decide) ?_
    refine r_idiv (pc := 40) C dX1_offset_40 (by decide) ?_
    refine r_callS0 (pc := 41) (As := [.int (F 4 h), .int (t / 2)]) (st := []) C (c_X1_swung (F 4 h) (t / 2) (hW h hh)) xm_X1_swung xk_X1_68 dX1_offset_41 (fun _ => rfl) (fun _ => rfl) rfl rfl (Nat.le_of_ble_eq_true rfl) ⟨Nat.le_of_ble_eq_true rfl, Nat.le_of_ble_eq_true rfl⟩ ⟨rfl, rfl⟩ ⟨Nat.le_of_ble_eq_true rfl, Nat.le_of_ble_eq_true rfl⟩ rfl ?_
    show g 0 0 (wF 0 F) 44 [some (.ref 0), some (.int (nI h)), some (.int t)] [.int (swS (F 4 h) (t / 2))]
    exact E _ _ _ _ _ _ dX1_offset_44 (Nat.le_refl _) (Nat.le_refl _) rfl ⟨congrArg (fun z => some (Value.int z)) (by simp [offS, q_6_3]), rfl⟩
  by_cases q_6_4 : F 0 h = 4
  · refine r_tableIn (pc := 6) (off := 39) (tgt := 45) C dX1_offset_6 (by rw [q_6_4]; decide) (by rw [q_6_4]; decide) (by rw [q_6_4]; rfl) (by decide) ?_
    refine r_iconst (pc := 45) (v := 0) C dX1_offset_45 (by decide) ?_
    exact E _ _ _ _ _ _ dX1_offset_46 (Nat.le_refl _) (Nat.le_refl _) rfl ⟨congrArg (fun z => some (Value.int z)) (by simp [offS, q_6_3, q_6_4]), rfl⟩
  by_cases q_6_5 : F 0 h = 5
  · refine r_tableIn (pc := 6) (off := 41) (tgt := 47) C dX1_offset_6 (by rw [q_6_5]; decide) (by rw [q_6_5]; decide) (by rw [q_6_5]; rfl) (by decide) ?_
    refine r_aload_n (pc := 47) C dX1_offset_47 rfl rfl ?_
    refine r_getfield (pc := 48) (v := .ref 5) C xf_X1_24 dX1_offset_48 rfl rfl ?_
    refine r_iload_n (pc := 51) C dX1_offset_51 rfl rfl ?_
    refine r_iaload (pc := 52) (v := F 4 h) C h dX1_offset_52 rfl rfl (by first | assumption | omega) rfl ?_
    exact E _ _ _ _ _ _ dX1_offset_53 (Nat.le_refl _) (Nat.le_refl _) rfl ⟨congrArg (fun z => some (Value.int z)) (by simp [offS, q_6_3, q_6_4, q_6_5]), rfl⟩
  refine r_tableOut (pc := 6) (tgt := 54) C dX1_offset_6 (by have t_3 := lv_neT (a := 3) q_6_3 rfl; have t_4 := lv_neT (a := 4) q_6_4 rfl; have t_5 := lv_neT (a := 5) q_6_5 rfl; omega) (by decide) ?_
  refine r_aload_n (pc := 54) C dX1_offset_54 rfl rfl ?_
  refine r_getfield (pc := 55) (v := .ref 5) C xf_X1_24 dX1_offset_55 rfl rfl ?_
  refine r_iload_n (pc := 58) C dX1_offset_58 rfl rfl ?_
  refine r_iaload (pc := 59) (v := F 4 h) C h dX1_offset_59 rfl rfl (by first | assumption | omega) rfl ?_
  refine r_iload_n (pc := 60) C dX1_offset_60 rfl rfl ?_
  refine r_callS0 (pc := 61) (As := [.int (F 4 h), .int t]) (st := []) C (c_X1_swung (F 4 h) t (hW h hh)) xm_X1_swung xk_X1_68 dX1_offset_61 (fun _ => rfl) (fun _ => rfl) rfl rfl (Nat.le_of_ble_eq_true rfl) ⟨Nat.le_of_ble_eq_true rfl, Nat.le_of_ble_eq_true rfl⟩ ⟨rfl, rfl⟩ ⟨Nat.le_of_ble_eq_true rfl, Nat.le_of_ble_eq_true rfl⟩ rfl ?_
  show g 0 0 (wF 0 F) 64 [some (.ref 0), some (.int (nI h)), some (.int t)] [.int (swS (F 4 h) t)]
  exact E _ _ _ _ _ _ dX1_offset_64 (Nat.le_refl _) (Nat.le_refl _) rfl ⟨congrArg (fun z => some (Value.int z)) (by simp [offS, q_6_3, q_6_4, q_6_5]), rfl⟩
set_option maxHeartbeats 4000000 in
set_option maxRecDepth 100000 in
theorem c_X1_place (F : Nat → Nat → Int32) (h : Nat) (hh : h < 6) (t : Int32) (hW : okW F) : MetA yX1_place (.code yX1_place cX1_place 3 (some .int) :: TT) rmX1_place [.ref 0, .int (nI h), .int t] (wF 0 F) (fun vr wr => vr = some (.int (plS F h t)) ∧ wr = wF 0 F) 0 0 := by
  refine MetA.of_i (by decide) (fun _ => Nat.le_of_ble_eq_true rfl) (Nat.le_of_ble_eq_true rfl) (fun g C E => ?_)
  replace C : Sem cX1_place RX1 "place" 3 rmX1_place g := C
  show g 0 0 (wF 0 F) 0 [some (.ref 0), some (.int (nI h)), some (.int t)] []
  refine r_aload_n (pc := 0) C dX1_place_0 rfl rfl ?_
  refine r_getfield (pc := 1) (v := .ref 2) C xf_X1_15 dX1_place_1 rfl rfl ?_
  refine r_iload_n (pc := 4) C dX1_place_4 rfl rfl ?_
  refine r_iaload (pc := 5) (v := F 1 h) C h dX1_place_5 rfl rfl (by first | assumption | omega) rfl ?_
  refine r_aload_n (pc := 6) C dX1_place_6 rfl rfl ?_
  refine r_getfield (pc := 7) (v := .ref 3) C xf_X1_18 dX1_place_7 rfl rfl ?_
  refine r_iload_n (pc := 10) C dX1_place_10 rfl rfl ?_
  refine r_iaload (pc := 11) (v := F 2 h) C h dX1_place_11 rfl rfl (by first | assumption | omega) rfl ?_
  refine r_iadd (pc := 12) C dX1_place_12 ?_
  refine r_iconst (pc := 13) (v := 2) C dX1_place_13 (by decide) ?_
  refine r_aload_n (pc := 14) C dX1_place_14 rfl rfl ?_
  refine r_iload_n (pc := 15) C dX1_place_15 rfl rfl ?_
  refine r_iload_n (pc := 16) C dX1_place_16 rfl rfl ?_
  refine r_callV0 (pc := 17) (As := [.int (nI h), .int t]) (st := [.int 2, .int ((F 1 h) + (F 2 h))]) (θ' := wF 0 F) C (c_X1_offset F h (by omega) t hW) xm_X1_offset xk_X1_65 dX1_place_17 rfl rfl rfl rfl (Nat.le_of_ble_eq_true rfl) ⟨Nat.le_of_ble_eq_true rfl, Nat.le_of_ble_eq_true rfl⟩ ⟨rfl, rfl⟩ ⟨Nat.le_of_ble_eq_true rfl, Nat.le_of_ble_eq_true rfl⟩ rfl rfl ?_
  show g 0 0 (wF 0 F) 20 [some (.ref 0), some (.int (nI h)), some (.int t)] [.int (offS F h t), .int 2, .int ((F 1 h) + (F 2 h))]
  refine r_imul (pc := 20) C dX1_place_20 ?_
  refine r_iadd (pc := 21) C dX1_place_21 ?_
  exact E _ _ _ _ _ _ dX1_place_22 (Nat.le_refl _) (Nat.le_refl _) rfl ⟨congrArg (fun z => some (Value.int z)) (by simp [plS]), rfl⟩
set_option maxHeartbeats 4000000 in
set_option maxRecDepth 100000 in
theorem c_X1_spot (F : Nat → Nat → Int32) (h : Nat) (hh : h < 6) (t : Int32) (hW : okW F) : MetA yX1_spot (.code yX1_spot cX1_spot 3 (some .int) :: TT) rmX1_spot [.ref 0, .int (nI h), .int t] (wF 0 F) (fun vr wr => vr = some (.int (spS F h t)) ∧ wr = wF 0 F) 0 0 := by
  refine MetA.of_i (by decide) (fun _ => Nat.le_of_ble_eq_true rfl) (Nat.le_of_ble_eq_true rfl) (fun g C E => ?_)
  replace C : Sem cX1_spot RX1 "spot" 3 rmX1_spot g := C
  show g 0 0 (wF 0 F) 0 [some (.ref 0), some (.int (nI h)), some (.int t)] []
  refine r_aload_n (pc := 0) C dX1_spot_0 rfl rfl ?_
  refine r_iload_n (pc := 1) C dX1_spot_1 rfl rfl ?_
  refine r_iload_n (pc := 2) C dX1_spot_2 rfl rfl ?_
  refine r_callV0 (pc := 3) (As := [.int (nI h), .int t]) (st := []) (θ' := wF 0 F) C (c_X1_isDown F h (by omega) t) xm_X1_isDown xk_X1_61 dX1_spot_3 rfl rfl rfl rfl (Nat.le_of_ble_eq_true rfl) ⟨Nat.le_of_ble_eq_true rfl, Nat.le_of_ble_eq_true rfl⟩ ⟨rfl, rfl⟩ ⟨Nat.le_of_ble_eq_true rfl, Nat.le_of_ble_eq_true rfl⟩ rfl rfl ?_
  show g 0 0 (wF 0 F) 6 [some (.ref 0), some (.int (nI h)), some (.int t)] [.int (bB (downS F h t))]
  refine r_if_eq (pc := 6) (tgt := 15) C dX1_spot_6 (by decide) (fun h_6 => ?_) (fun h_6 => ?_)
  · replace h_6 := bB_f h_6
    refine r_aload_n (pc := 15) C dX1_spot_15 rfl rfl ?_
    refine r_iload_n (pc := 16) C dX1_spot_16 rfl rfl ?_
    refine r_iload_n (pc := 17) C dX1_spot_17 rfl rfl ?_
    refine r_callV0 (pc := 18) (As := [.int (nI h), .int t]) (st := []) (θ' := wF 0 F) C (c_X1_place F h (by omega) t hW) xm_X1_place xk_X1_71 dX1_spot_18 rfl rfl rfl rfl (Nat.le_of_ble_eq_true rfl) ⟨Nat.le_of_ble_eq_true rfl, Nat.le_of_ble_eq_true rfl⟩ ⟨rfl, rfl⟩ ⟨Nat.le_of_ble_eq_true rfl, Nat.le_of_ble_eq_true rfl⟩ rfl rfl ?_
    show g 0 0 (wF 0 F) 21 [some (.ref 0), some (.int (nI h)), some (.int t)] [.int (plS F h t)]
    exact E _ _ _ _ _ _ dX1_spot_21 (Nat.le_refl _) (Nat.le_refl _) rfl ⟨congrArg (fun z => some (Value.int z)) (by simp [spS, h_6]), rfl⟩
  · replace h_6 := bB_t h_6
    refine r_sipush (pc := 9) (v := (-1000)) C dX1_spot_9 (by decide) ?_
    refine r_goto (pc := 12) (tgt := 21) C dX1_spot_12 (by decide) ?_
    exact E _ _ _ _ _ _ dX1_spot_21 (Nat.le_refl _) (Nat.le_refl _) rfl ⟨congrArg (fun z => some (Value.int z)) (by simp [spS, h_6]), rfl⟩
set_option maxHeartbeats 4000000 in
set_option maxRecDepth 100000 in
theorem c_X1_areNear (F : Nat → Nat → Int32) (a b : Int32) : MetA yX1_areNear (.code yX1_areNear cX1_areNear 3 (some .boolean) :: TT) rmX1_areNear [.ref 0, .int a, .int b] (wF 0 F) (fun vr wr => vr = some (.int (bB (nrS F a b))) ∧ wr = wF 0 F) 0 0 := by
  refine MetA.of_i (by decide) (fun _ => Nat.le_of_ble_eq_true rfl) (Nat.le_of_ble_eq_true rfl) (fun g C E => ?_)
  replace C : Sem cX1_areNear RX1 "areNear" 3 rmX1_areNear g := C
  show g 0 0 (wF 0 F) 0 [some (.ref 0), some (.int a), some (.int b)] []
  refine r_iload_n (pc := 0) C dX1_areNear_0 rfl rfl ?_
  refine r_sipush (pc := 1) (v := (-1000)) C dX1_areNear_1 (by decide) ?_
  refine r_icmp_eq (pc := 4) (tgt := 33) C dX1_areNear_4 (by decide) (fun h_4 => ?_) (fun h_4 => ?_)
  · skip
    refine r_iconst (pc := 33) (v := 0) C dX1_areNear_33 (by decide) ?_
    exact E _ _ _ _ _ _ dX1_areNear_34 (Nat.le_refl _) (Nat.le_refl _) rfl ⟨congrArg (fun z => some (Value.int z)) (by simp [nrS, bB, h_4]), rfl⟩
  · skip
    refine r_iload_n (pc := 7) C dX1_areNear_7 rfl rfl ?_
    refine r_sipush (pc := 8) (v := (-1000)) C dX1_areNear_8 (by decide) ?_
    refine r_icmp_eq (pc := 11) (tgt := 33) C dX1_areNear_11 (by decide) (fun h_11 => ?_) (fun h_11 => ?_)
    · skip
      refine r_iconst (pc := 33) (v := 0) C dX1_areNear_33 (by decide) ?_
      exact E _ _ _ _ _ _ dX1_areNear_34 (Nat.le_refl _) (Nat.le_refl _) rfl ⟨congrArg (fun z => some (Value.int z)) (by simp [nrS, bB, h_4, h_11]), rfl⟩
    · skip
      refine r_iload_n (pc := 14) C dX1_areNear_14 rfl rfl ?_
      refine r_iload_n (pc := 15) C dX1_areNear_15 rfl rfl ?_
      refine r_isub (pc := 16) C dX1_areNear_16 ?_
      refine r_abs (pc := 17) C ⟨tw_413, abs_s, abs_i, abs_c⟩ dX1_areNear_17 rfl ⟨Nat.le_of_ble_eq_true rfl, Nat.le_of_ble_eq_true rfl⟩ ⟨Nat.le_of_ble_eq_true rfl, Nat.le_of_ble_eq_true rfl⟩ ?_
      show g 0 0 (wF 0 F) 20 [some (.ref 0), some (.int a), some (.int b)] [.int (absI (a - b))]
      refine r_iconst (pc := 20) (v := 2) C dX1_areNear_20 (by decide) ?_
      refine r_aload_n (pc := 21) C dX1_areNear_21 rfl rfl ?_
      refine r_getfield (pc := 22) (v := .int (F 7 0)) C xf_X1_50 dX1_areNear_22 rfl rfl ?_
      refine r_imul (pc := 25) C dX1_areNear_25 ?_
      refine r_icmp_gt (pc := 26) (tgt := 33) C dX1_areNear_26 (by decide) (fun h_26 => ?_) (fun h_26 => ?_)
      · skip
        refine r_iconst (pc := 33) (v := 0) C dX1_areNear_33 (by decide) ?_
        exact E _ _ _ _ _ _ dX1_areNear_34 (Nat.le_refl _) (Nat.le_refl _) rfl ⟨congrArg (fun z => some (Value.int z)) (by simp [nrS, bB, h_4, h_11, h_26]), rfl⟩
      · skip
        refine r_iconst (pc := 29) (v := 1) C dX1_areNear_29 (by decide) ?_
        refine r_goto (pc := 30) (tgt := 34) C dX1_areNear_30 (by decide) ?_
        exact E _ _ _ _ _ _ dX1_areNear_34 (Nat.le_refl _) (Nat.le_refl _) rfl ⟨congrArg (fun z => some (Value.int z)) (by simp [nrS, bB, h_4, h_11, h_26]), rfl⟩
set_option maxHeartbeats 4000000 in
set_option maxRecDepth 100000 in
theorem lp_X1_downBits (F : Nat → Nat → Int32) (t : Int32) (z : Nat) (hz : F 9 0 = nI z) (hz6 : z ≤ 6) {g : Nat → Nat → List xE → Nat → List (Option Value) → List Value → Prop} (C : Sem cX1_downBits RX1 "downBits" 4 rmX1_downBits g) (E : xEi g cX1_downBits .int 0 0 (fun vr wr => vr = some (.int (bitsS (fun h => downS F h t) z)) ∧ wr = wF 0 F)) : ∀ (n : Nat) (i : Nat), i + n = z → g 0 0 (wF 0 F) 4 [some (.ref 0), some (.int t), some (.int (bitsS (fun h => downS F h t) i)), some (.int (nI i))] [] := by
  intro n
  induction n with
  | zero =>
    intro i hi
    refine r_iload_n (pc := 4) C dX1_downBits_4 rfl rfl ?_
    refine r_aload_n (pc := 5) C dX1_downBits_5 rfl rfl ?_
    refine r_getfield (pc := 6) (v := .int (F 9 0)) C xf_X1_35 dX1_downBits_6 rfl rfl ?_
    refine r_icmp_ge (pc := 9) (tgt := 33) C dX1_downBits_9 (by decide) (fun _ => ?_) (fun h => absurd (by rw [hz]; exact nI_le (by omega) (by omega)) h)
    refine r_iload_n (pc := 33) C dX1_downBits_33 rfl rfl ?_
    obtain rfl : i = z := by omega
    exact E _ _ _ _ _ _ dX1_downBits_34 (Nat.le_refl _) (Nat.le_refl _) rfl ⟨rfl, rfl⟩
  | succ n ih =>
    intro i hi
    refine r_iload_n (pc := 4) C dX1_downBits_4 rfl rfl ?_
    refine r_aload_n (pc := 5) C dX1_downBits_5 rfl rfl ?_
    refine r_getfield (pc := 6) (v := .int (F 9 0)) C xf_X1_35 dX1_downBits_6 rfl rfl ?_
    refine r_icmp_ge (pc := 9) (tgt := 33) C dX1_downBits_9 (by decide) (fun h => absurd h (by rw [hz]; exact nI_ge (by omega) (by omega))) (fun _ => ?_)
    refine r_aload_n (pc := 12) C dX1_downBits_12 rfl rfl ?_
    refine r_iload_n (pc := 13) C dX1_downBits_13 rfl rfl ?_
    refine r_iload_n (pc := 14) C dX1_downBits_14 rfl rfl ?_
    refine r_callV0 (pc := 15) (As := [.int (nI i), .int t]) (st := []) (θ' := wF 0 F) C (c_X1_isDown F i (by omega) t) xm_X1_isDown xk_X1_61 dX1_downBits_15 rfl rfl rfl rfl (Nat.le_of_ble_eq_true rfl) ⟨Nat.le_of_ble_eq_true rfl, Nat.le_of_ble_eq_true rfl⟩ ⟨rfl, rfl⟩ ⟨Nat.le_of_ble_eq_true rfl, Nat.le_of_ble_eq_true rfl⟩ rfl rfl ?_
    show g 0 0 (wF 0 F) 18 [some (.ref 0), some (.int t), some (.int (bitsS (fun h => downS F h t) i)), some (.int (nI i))] [.int (bB (downS F i t))]
    refine r_if_eq (pc := 18) (tgt := 27) C dX1_downBits_18 (by decide) (fun h_18 => ?_) (fun h_18 => ?_)
    · replace h_18 := bB_f h_18
      refine r_iinc (pc := 27) (v := nI (i + 1)) (lv' := [some (.ref 0), some (.int t), some (.int (bitsS (fun h => downS F h t) i)), some (.int (nI (i + 1)))]) C dX1_downBits_27 rfl (nI_1 i) trivial rfl ?_
      refine r_goto (pc := 30) (tgt := 4) C dX1_downBits_30 (by decide) ?_
      show g 0 0 (wF 0 F) 4 [some (.ref 0), some (.int t), some (.int (bitsS (fun h => downS F h t) i)), some (.int (nI (i + 1)))] []
      rw [show (bitsS (fun h => downS F h t) i : Int32) = bitsS (fun h => downS F h t) (i + 1) from by simp [bitsS, h_18]]
      exact ih (i + 1) (by omega)
    · replace h_18 := bB_t h_18
      refine r_iload_n (pc := 21) C dX1_downBits_21 rfl rfl ?_
      refine r_iconst (pc := 22) (v := 1) C dX1_downBits_22 (by decide) ?_
      refine r_iload_n (pc := 23) C dX1_downBits_23 rfl rfl ?_
      refine r_ishl (pc := 24) C dX1_downBits_24 ?_
      refine r_ior (pc := 25) C dX1_downBits_25 ?_
      refine r_istore_n (pc := 26) (lv' := [some (.ref 0), some (.int t), some (.int ((bitsS (fun h => downS F h t) i) ||| (1 <<< ((nI i) &&& 31)))), some (.int (nI i))]) C dX1_downBits_26 rfl (Nat.le_of_ble_eq_true rfl) trivial rfl ?_
      refine r_iinc (pc := 27) (v := nI (i + 1)) (lv' := [some (.ref 0), some (.int t), some (.int ((bitsS (fun h => downS F h t) i) ||| (1 <<< ((nI i) &&& 31)))), some (.int (nI (i + 1)))]) C dX1_downBits_27 rfl (nI_1 i) trivial rfl ?_
      refine r_goto (pc := 30) (tgt := 4) C dX1_downBits_30 (by decide) ?_
      show g 0 0 (wF 0 F) 4 [some (.ref 0), some (.int t), some (.int ((bitsS (fun h => downS F h t) i) ||| (1 <<< ((nI i) &&& 31)))), some (.int (nI (i + 1)))] []
      rw [show ((bitsS (fun h => downS F h t) i) ||| (1 <<< ((nI i) &&& 31)) : Int32) = bitsS (fun h => downS F h t) (i + 1) from by simp [bitsS, h_18]]
      exact ih (i + 1) (by omega)
set_option maxHeartbeats 4000000 in
set_option maxRecDepth 100000 in
theorem c_X1_downBits (F : Nat → Nat → Int32) (t : Int32) (z : Nat) (hz : F 9 0 = nI z) (hz6 : z ≤ 6) : MetA yX1_downBits (.code yX1_downBits cX1_downBits 4 (some .int) :: TT) rmX1_downBits [.ref 0, .int t] (wF 0 F) (fun vr wr => vr = some (.int (bitsS (fun h => downS F h t) z)) ∧ wr = wF 0 F) 0 0 := by
  refine MetA.of_i (by decide) (fun _ => Nat.le_of_ble_eq_true rfl) (Nat.le_of_ble_eq_true rfl) (fun g C E => ?_)
  replace C : Sem cX1_downBits RX1 "downBits" 4 rmX1_downBits g := C
  show g 0 0 (wF 0 F) 0 [some (.ref 0), some (.int t), none, none] []
  refine r_iconst (pc := 0) (v := 0) C dX1_downBits_0 (by decide) ?_
  refine r_istore_n (pc := 1) (lv' := [some (.ref 0), some (.int t), some (.int 0), none]) C dX1_downBits_1 rfl (Nat.le_of_ble_eq_true rfl) trivial rfl ?_
  refine r_iconst (pc := 2) (v := 0) C dX1_downBits_2 (by decide) ?_
  refine r_istore_n (pc := 3) (lv' := [some (.ref 0), some (.int t), some (.int 0), some (.int 0)]) C dX1_downBits_3 rfl (Nat.le_of_ble_eq_true rfl) trivial rfl ?_
  exact lp_X1_downBits F t z hz hz6 C E z 0 (by omega)
set_option maxHeartbeats 4000000 in
set_option maxRecDepth 100000 in
theorem lp_X1_nearBits (F : Nat → Nat → Int32) (h : Nat) (hh : h < 6) (t : Int32) (hW : okW F) (z : Nat) (hz : F 9 0 = nI z) (hz6 : z ≤ 6) {g : Nat → Nat → List xE → Nat → List (Option Value) → List Value → Prop} (C : Sem cX1_nearBits RX1 "nearBits" 6 rmX1_nearBits g) (E : xEi g cX1_nearBits .int 0 0 (fun vr wr => vr = some (.int (bitsS (fun o => !decide (o = h) && nrS F (spS F h t) (spS F o t)) z)) ∧ wr = wF 0 F)) : ∀ (n : Nat) (i : Nat), i + n = z → g 0 0 (wF 0 F) 13 [some (.ref 0), some (.int (nI h)), some (.int t), some (.int (bitsS (fun o => !decide (o = h) && nrS F (spS F h t) (spS F o t)) i)), some (.int (spS F h t)), some (.int (nI i))] [] := by
  intro n
  induction n with
  | zero =>
    intro i hi
    refine r_iload (pc := 13) C dX1_nearBits_13 rfl ?_
    refine r_aload_n (pc := 15) C dX1_nearBits_15 rfl rfl ?_
    refine r_getfield (pc := 16) (v := .int (F 9 0)) C xf_X1_35 dX1_nearBits_16 rfl rfl ?_
    refine r_icmp_ge (pc := 19) (tgt := 57) C dX1_nearBits_19 (by decide) (fun _ => ?_) (fun h => absurd (by rw [hz]; exact nI_le (by omega) (by omega)) h)
    refine r_iload_n (pc := 57) C dX1_nearBits_57 rfl rfl ?_
    obtain rfl : i = z := by omega
    exact E _ _ _ _ _ _ dX1_nearBits_58 (Nat.le_refl _) (Nat.le_refl _) rfl ⟨rfl, rfl⟩
  | succ n ih =>
    intro i hi
    refine r_iload (pc := 13) C dX1_nearBits_13 rfl ?_
    refine r_aload_n (pc := 15) C dX1_nearBits_15 rfl rfl ?_
    refine r_getfield (pc := 16) (v := .int (F 9 0)) C xf_X1_35 dX1_nearBits_16 rfl rfl ?_
    refine r_icmp_ge (pc := 19) (tgt := 57) C dX1_nearBits_19 (by decide) (fun h => absurd h (by rw [hz]; exact nI_ge (by omega) (by omega))) (fun _ => ?_)
    refine r_iload (pc := 22) C dX1_nearBits_22 rfl ?_
    refine r_iload_n (pc := 24) C dX1_nearBits_24 rfl rfl ?_
    refine r_icmp_eq (pc := 25) (tgt := 51) C dX1_nearBits_25 (by decide) (fun h_25 => ?_) (fun h_25 => ?_)
    · skip
      replace h_25 := (nI_eq (by omega) (by omega)).mp h_25
      refine r_iinc (pc := 51) (v := nI (i + 1)) (lv' := [some (.ref 0), some (.int (nI h)), some (.int t), some (.int (bitsS (fun o => !decide (o = h) && nrS F (spS F h t) (spS F o t)) i)), some (.int (spS F h t)), some (.int (nI (i + 1)))]) C dX1_nearBits_51 rfl (nI_1 i) trivial rfl ?_
      refine r_goto (pc := 54) (tgt := 13) C dX1_nearBits_54 (by decide) ?_
      show g 0 0 (wF 0 F) 13 [some (.ref 0), some (.int (nI h)), some (.int t), some (.int (bitsS (fun o => !decide (o = h) && nrS F (spS F h t) (spS F o t)) i)), some (.int (spS F h t)), some (.int (nI (i + 1)))] []
      rw [show (bitsS (fun o => !decide (o = h) && nrS F (spS F h t) (spS F o t)) i : Int32) = bitsS (fun o => !decide (o = h) && nrS F (spS F h t) (spS F o t)) (i + 1) from by simp [bitsS, h_25]]
      exact ih (i + 1) (by omega)
    · skip
      replace h_25 : ¬ i = h := fun q => h_25 (congrArg nI q)
      refine r_aload_n (pc := 28) C dX1_nearBits_28 rfl rfl ?_
      refine r_iload (pc := 29) C dX1_nearBits_29 rfl ?_
      refine r_aload_n (pc := 31) C dX1_nearBits_31 rfl rfl ?_
      refine r_iload (pc := 32) C dX1_nearBits_32 rfl ?_
      refine r_iload_n (pc := 34) C dX1_nearBits_34 rfl rfl ?_
      refine r_callV0 (pc := 35) (As := [.int (nI i), .int t]) (st := [.int (spS F h t), .ref 0]) (θ' := wF 0 F) C (c_X1_spot F i (by omega) t hW) xm_X1_spot xk_X1_80 dX1_nearBits_35 rfl rfl rfl rfl (Nat.le_of_ble_eq_true rfl) ⟨Nat.le_of_ble_eq_true rfl, Nat.le_of_ble_eq_true rfl⟩ ⟨rfl, rfl⟩ ⟨Nat.le_of_ble_eq_true rfl, Nat.le_of_ble_eq_true rfl⟩ rfl rfl ?_
      show g 0 0 (wF 0 F) 38 [some (.ref 0), some (.int (nI h)), some (.int t), some (.int (bitsS (fun o => !decide (o = h) && nrS F (spS F h t) (spS F o t)) i)), some (.int (spS F h t)), some (.int (nI i))] [.int (spS F i t), .int (spS F h t), .ref 0]
      refine r_callV0 (pc := 38) (As := [.int (spS F h t), .int (spS F i t)]) (st := []) (θ' := wF 0 F) C (c_X1_areNear F (spS F h t) (spS F i t)) xm_X1_areNear xk_X1_83 dX1_nearBits_38 rfl rfl rfl rfl (Nat.le_of_ble_eq_true rfl) ⟨Nat.le_of_ble_eq_true rfl, Nat.le_of_ble_eq_true rfl⟩ ⟨rfl, rfl⟩ ⟨Nat.le_of_ble_eq_true rfl, Nat.le_of_ble_eq_true rfl⟩ rfl rfl ?_
      show g 0 0 (wF 0 F) 41 [some (.ref 0), some (.int (nI h)), some (.int t), some (.int (bitsS (fun o => !decide (o = h) && nrS F (spS F h t) (spS F o t)) i)), some (.int (spS F h t)), some (.int (nI i))] [.int (bB (nrS F (spS F h t) (spS F i t)))]
      refine r_if_eq (pc := 41) (tgt := 51) C dX1_nearBits_41 (by decide) (fun h_41 => ?_) (fun h_41 => ?_)
      · replace h_41 := bB_f h_41
        refine r_iinc (pc := 51) (v := nI (i + 1)) (lv' := [some (.ref 0), some (.int (nI h)), some (.int t), some (.int (bitsS (fun o => !decide (o = h) && nrS F (spS F h t) (spS F o t)) i)), some (.int (spS F h t)), some (.int (nI (i + 1)))]) C dX1_nearBits_51 rfl (nI_1 i) trivial rfl ?_
        refine r_goto (pc := 54) (tgt := 13) C dX1_nearBits_54 (by decide) ?_
        show g 0 0 (wF 0 F) 13 [some (.ref 0), some (.int (nI h)), some (.int t), some (.int (bitsS (fun o => !decide (o = h) && nrS F (spS F h t) (spS F o t)) i)), some (.int (spS F h t)), some (.int (nI (i + 1)))] []
        rw [show (bitsS (fun o => !decide (o = h) && nrS F (spS F h t) (spS F o t)) i : Int32) = bitsS (fun o => !decide (o = h) && nrS F (spS F h t) (spS F o t)) (i + 1) from by simp [bitsS, h_25, h_41]]
        exact ih (i + 1) (by omega)
      · replace h_41 := bB_t h_41
        refine r_iload_n (pc := 44) C dX1_nearBits_44 rfl rfl ?_
        refine r_iconst (pc := 45) (v := 1) C dX1_nearBits_45 (by decide) ?_
        refine r_iload (pc := 46) C dX1_nearBits_46 rfl ?_
        refine r_ishl (pc := 48) C dX1_nearBits_48 ?_
        refine r_ior (pc := 49) C dX1_nearBits_49 ?_
        refine r_istore_n (pc := 50) (lv' := [some (.ref 0), some (.int (nI h)), some (.int t), some (.int ((bitsS (fun o => !decide (o = h) && nrS F (spS F h t) (spS F o t)) i) ||| (1 <<< ((nI i) &&& 31)))), some (.int (spS F h t)), some (.int (nI i))]) C dX1_nearBits_50 rfl (Nat.le_of_ble_eq_true rfl) trivial rfl ?_
        refine r_iinc (pc := 51) (v := nI (i + 1)) (lv' := [some (.ref 0), some (.int (nI h)), some (.int t), some (.int ((bitsS (fun o => !decide (o = h) && nrS F (spS F h t) (spS F o t)) i) ||| (1 <<< ((nI i) &&& 31)))), some (.int (spS F h t)), some (.int (nI (i + 1)))]) C dX1_nearBits_51 rfl (nI_1 i) trivial rfl ?_
        refine r_goto (pc := 54) (tgt := 13) C dX1_nearBits_54 (by decide) ?_
        show g 0 0 (wF 0 F) 13 [some (.ref 0), some (.int (nI h)), some (.int t), some (.int ((bitsS (fun o => !decide (o = h) && nrS F (spS F h t) (spS F o t)) i) ||| (1 <<< ((nI i) &&& 31)))), some (.int (spS F h t)), some (.int (nI (i + 1)))] []
        rw [show ((bitsS (fun o => !decide (o = h) && nrS F (spS F h t) (spS F o t)) i) ||| (1 <<< ((nI i) &&& 31)) : Int32) = bitsS (fun o => !decide (o = h) && nrS F (spS F h t) (spS F o t)) (i + 1) from by simp [bitsS, h_25, h_41]]
        exact ih (i + 1) (by omega)
set_option maxHeartbeats 4000000 in
set_option maxRecDepth 100000 in
theorem c_X1_nearBits (F : Nat → Nat → Int32) (h : Nat) (hh : h < 6) (t : Int32) (hW : okW F) (z : Nat) (hz : F 9 0 = nI z) (hz6 : z ≤ 6) : MetA yX1_nearBits (.code yX1_nearBits cX1_nearBits 6 (some .int) :: TT) rmX1_nearBits [.ref 0, .int (nI h), .int t] (wF 0 F) (fun vr wr => vr = some (.int (bitsS (fun o => !decide (o = h) && nrS F (spS F h t) (spS F o t)) z)) ∧ wr = wF 0 F) 0 0 := by
  refine MetA.of_i (by decide) (fun _ => Nat.le_of_ble_eq_true rfl) (Nat.le_of_ble_eq_true rfl) (fun g C E => ?_)
  replace C : Sem cX1_nearBits RX1 "nearBits" 6 rmX1_nearBits g := C
  show g 0 0 (wF 0 F) 0 [some (.ref 0), some (.int (nI h)), some (.int t), none, none, none] []
  refine r_iconst (pc := 0) (v := 0) C dX1_nearBits_0 (by decide) ?_
  refine r_istore_n (pc := 1) (lv' := [some (.ref 0), some (.int (nI h)), some (.int t), some (.int 0), none, none]) C dX1_nearBits_1 rfl (Nat.le_of_ble_eq_true rfl) trivial rfl ?_
  refine r_aload_n (pc := 2) C dX1_nearBits_2 rfl rfl ?_
  refine r_iload_n (pc := 3) C dX1_nearBits_3 rfl rfl ?_
  refine r_iload_n (pc := 4) C dX1_nearBits_4 rfl rfl ?_
  refine r_callV0 (pc := 5) (As := [.int (nI h), .int t]) (st := []) (θ' := wF 0 F) C (c_X1_spot F h (by omega) t hW) xm_X1_spot xk_X1_80 dX1_nearBits_5 rfl rfl rfl rfl (Nat.le_of_ble_eq_true rfl) ⟨Nat.le_of_ble_eq_true rfl, Nat.le_of_ble_eq_true rfl⟩ ⟨rfl, rfl⟩ ⟨Nat.le_of_ble_eq_true rfl, Nat.le_of_ble_eq_true rfl⟩ rfl rfl ?_
  show g 0 0 (wF 0 F) 8 [some (.ref 0), some (.int (nI h)), some (.int t), some (.int 0), none, none] [.int (spS F h t)]
  refine r_istore (pc := 8) (lv' := [some (.ref 0), some (.int (nI h)), some (.int t), some (.int 0), some (.int (spS F h t)), none]) C dX1_nearBits_8 (Nat.le_of_ble_eq_true rfl) trivial rfl ?_
  refine r_iconst (pc := 10) (v := 0) C dX1_nearBits_10 (by decide) ?_
  refine r_istore (pc := 11) (lv' := [some (.ref 0), some (.int (nI h)), some (.int t), some (.int 0), some (.int (spS F h t)), some (.int 0)]) C dX1_nearBits_11 (Nat.le_of_ble_eq_true rfl) trivial rfl ?_
  exact lp_X1_nearBits F h hh t hW z hz hz6 C E z 0 (by omega)
set_option maxHeartbeats 4000000 in
set_option maxRecDepth 100000 in
theorem c_X1_begin (F : Nat → Nat → Int32) : MetA yX1_begin (.code yX1_begin cX1_begin 1 none :: TT) rmX1_begin [.ref 0] (wF 0 F) (fun vr wr => vr = none ∧ wr = wF 0 (begS F)) 0 0 := by
  refine MetA.of_v (by decide) (fun _ => Nat.le_of_ble_eq_true rfl) (Nat.le_of_ble_eq_true rfl) (fun g C E => ?_)
  replace C : Sem cX1_begin RX1 "begin" 1 rmX1_begin g := C
  show g 0 0 (wF 0 F) 0 [some (.ref 0)] []
  refine r_aload_n (pc := 0) C dX1_begin_0 rfl rfl ?_
  refine r_iconst (pc := 1) (v := 1) C dX1_begin_1 (by decide) ?_
  refine r_putfield (pc := 2) (θ' := wF 0 (up2 F 5 (k1 1))) C xf_X1_27 xt_X1_5 dX1_begin_2 rfl (Nat.le_of_ble_eq_true rfl) (fun _ => ⟨rfl, rfl⟩) rfl ?_
  refine r_aload_n (pc := 5) C dX1_begin_5 rfl rfl ?_
  refine r_iconst (pc := 6) (v := 0) C dX1_begin_6 (by decide) ?_
  refine r_putfield (pc := 7) (θ' := wF 0 (up2 (up2 F 5 (k1 1)) 8 (k1 0))) C xf_X1_31 xt_X1_8 dX1_begin_7 rfl (Nat.le_of_ble_eq_true rfl) (fun _ => ⟨rfl, rfl⟩) rfl ?_
  refine r_aload_n (pc := 10) C dX1_begin_10 rfl rfl ?_
  refine r_iconst (pc := 11) (v := 0) C dX1_begin_11 (by decide) ?_
  refine r_putfield (pc := 12) (θ' := wF 0 (up2 (up2 (up2 F 5 (k1 1)) 8 (k1 0)) 9 (k1 0))) C xf_X1_35 xt_X1_9 dX1_begin_12 rfl (Nat.le_of_ble_eq_true rfl) (fun _ => ⟨rfl, rfl⟩) rfl ?_
  refine r_aload_n (pc := 15) C dX1_begin_15 rfl rfl ?_
  refine r_iconst (pc := 16) (v := 0) C dX1_begin_16 (by decide) ?_
  refine r_putfield (pc := 17) (θ' := wF 0 (up2 (up2 (up2 (up2 F 5 (k1 1)) 8 (k1 0)) 9 (k1 0)) 10 (k1 0))) C xf_X1_38 xt_X1_10 dX1_begin_17 rfl (Nat.le_of_ble_eq_true rfl) (fun _ => ⟨rfl, rfl⟩) rfl ?_
  exact E _ _ _ _ _ dX1_begin_20 (Nat.le_refl _) (Nat.le_refl _) ⟨rfl, rfl⟩
set_option maxHeartbeats 4000000 in
set_option maxRecDepth 100000 in
theorem c_X1_takeFrom (F P : Nat → Nat → Int32) (h5 : P 5 0 = 0 ∨ P 5 0 = 1) : MetA yX1_takeFrom (.code yX1_takeFrom cX1_takeFrom 2 none :: TT) rmX1_takeFrom [.ref 0, .ref 6] (wF 0 F ++ wF 6 P) (fun vr wr => vr = none ∧ wr = (wF 0 (tkS F P) ++ wF 6 P)) 0 0 := by
  refine MetA.of_v (by decide) (fun _ => Nat.le_of_ble_eq_true rfl) (Nat.le_of_ble_eq_true rfl) (fun g C E => ?_)
  replace C : Sem cX1_takeFrom RX1 "takeFrom" 2 rmX1_takeFrom g := C
  show g 0 0 (wF 0 F ++ wF 6 P) 0 [some (.ref 0), some (.ref 6)] []
  refine r_aload_n (pc := 0) C dX1_takeFrom_0 rfl rfl ?_
  refine r_getfield (pc := 1) (v := .ref 7) C xf_X1_9 dX1_takeFrom_1 rfl rfl ?_
  refine r_iconst (pc := 4) (v := 0) C dX1_takeFrom_4 (by decide) ?_
  refine r_aload_n (pc := 5) C dX1_takeFrom_5 rfl rfl ?_
  refine r_getfield (pc := 6) (v := .ref 1) C xf_X1_9 dX1_takeFrom_6 rfl rfl ?_
  refine r_iconst (pc := 9) (v := 0) C dX1_takeFrom_9 (by decide) ?_
  refine r_bipush (pc := 10) (v := 6) C dX1_takeFrom_10 (by decide) ?_
  refine r_copy (pc := 12) (θ' := wF 0 (up2 F 0 (va_cpy (P 0) (F 0) 0 0 6)) ++ wF 6 P) C ⟨tw_310, cpy_n, cpy_s, cpy_i⟩ 0 0 6 dX1_takeFrom_12 rfl ⟨Nat.le_of_ble_eq_true rfl, Nat.le_of_ble_eq_true rfl⟩ rfl rfl (by decide) (by decide) (by decide) (Nat.le_of_ble_eq_true rfl) (Nat.le_of_ble_eq_true rfl) rfl ?_
  refine r_aload_n (pc := 15) C dX1_takeFrom_15 rfl rfl ?_
  refine r_getfield (pc := 16) (v := .ref 8) C xf_X1_15 dX1_takeFrom_16 rfl rfl ?_
  refine r_iconst (pc := 19) (v := 0) C dX1_takeFrom_19 (by decide) ?_
  refine r_aload_n (pc := 20) C dX1_takeFrom_20 rfl rfl ?_
  refine r_getfield (pc := 21) (v := .ref 2) C xf_X1_15 dX1_takeFrom_21 rfl rfl ?_
  refine r_iconst (pc := 24) (v := 0) C dX1_takeFrom_24 (by decide) ?_
  refine r_bipush (pc := 25) (v := 6) C dX1_takeFrom_25 (by decide) ?_
  refine r_copy (pc := 27) (θ' := wF 0 (up2 (up2 F 0 (va_cpy (P 0) (F 0) 0 0 6)) 1 (va_cpy (P 1) (F 1) 0 0 6)) ++ wF 6 P) C ⟨tw_310, cpy_n, cpy_s, cpy_i⟩ 0 0 6 dX1_takeFrom_27 rfl ⟨Nat.le_of_ble_eq_true rfl, Nat.le_of_ble_eq_true rfl⟩ rfl rfl (by decide) (by decide) (by decide) (Nat.le_of_ble_eq_true rfl) (Nat.le_of_ble_eq_true rfl) rfl ?_
  refine r_aload_n (pc := 30) C dX1_takeFrom_30 rfl rfl ?_
  refine r_getfield (pc := 31) (v := .ref 9) C xf_X1_18 dX1_takeFrom_31 rfl rfl ?_
  refine r_iconst (pc := 34) (v := 0) C dX1_takeFrom_34 (by decide) ?_
  refine r_aload_n (pc := 35) C dX1_takeFrom_35 rfl rfl ?_
  refine r_getfield (pc := 36) (v := .ref 3) C xf_X1_18 dX1_takeFrom_36 rfl rfl ?_
  refine r_iconst (pc := 39) (v := 0) C dX1_takeFrom_39 (by decide) ?_
  refine r_bipush (pc := 40) (v := 6) C dX1_takeFrom_40 (by decide) ?_
  refine r_copy (pc := 42) (θ' := wF 0 (up2 (up2 (up2 F 0 (va_cpy (P 0) (F 0) 0 0 6)) 1 (va_cpy (P 1) (F 1) 0 0 6)) 2 (va_cpy (P 2) (F 2) 0 0 6)) ++ wF 6 P) C ⟨tw_310, cpy_n, cpy_s, cpy_i⟩ 0 0 6 dX1_takeFrom_42 rfl ⟨Nat.le_of_ble_eq_true rfl, Nat.le_of_ble_eq_true rfl⟩ rfl rfl (by decide) (by decide) (by decide) (Nat.le_of_ble_eq_true rfl) (Nat.le_of_ble_eq_true rfl) rfl ?_
  refine r_aload_n (pc := 45) C dX1_takeFrom_45 rfl rfl ?_
  refine r_getfield (pc := 46) (v := .ref 10) C xf_X1_21 dX1_takeFrom_46 rfl rfl ?_
  refine r_iconst (pc := 49) (v := 0) C dX1_takeFrom_49 (by decide) ?_
  refine r_aload_n (pc := 50) C dX1_takeFrom_50 rfl rfl ?_
  refine r_getfield (pc := 51) (v := .ref 4) C xf_X1_21 dX1_takeFrom_51 rfl rfl ?_
  refine r_iconst (pc := 54) (v := 0) C dX1_takeFrom_54 (by decide) ?_
  refine r_bipush (pc := 55) (v := 6) C dX1_takeFrom_55 (by decide) ?_
  refine r_copy (pc := 57) (θ' := wF 0 (up2 (up2 (up2 (up2 F 0 (va_cpy (P 0) (F 0) 0 0 6)) 1 (va_cpy (P 1) (F 1) 0 0 6)) 2 (va_cpy (P 2) (F 2) 0 0 6)) 3 (va_cpy (P 3) (F 3) 0 0 6)) ++ wF 6 P) C ⟨tw_310, cpy_n, cpy_s, cpy_i⟩ 0 0 6 dX1_takeFrom_57 rfl ⟨Nat.le_of_ble_eq_true rfl, Nat.le_of_ble_eq_true rfl⟩ rfl rfl (by decide) (by decide) (by decide) (Nat.le_of_ble_eq_true rfl) (Nat.le_of_ble_eq_true rfl) rfl ?_
  refine r_aload_n (pc := 60) C dX1_takeFrom_60 rfl rfl ?_
  refine r_getfield (pc := 61) (v := .ref 11) C xf_X1_24 dX1_takeFrom_61 rfl rfl ?_
  refine r_iconst (pc := 64) (v := 0) C dX1_takeFrom_64 (by decide) ?_
  refine r_aload_n (pc := 65) C dX1_takeFrom_65 rfl rfl ?_
  refine r_getfield (pc := 66) (v := .ref 5) C xf_X1_24 dX1_takeFrom_66 rfl rfl ?_
  refine r_iconst (pc := 69) (v := 0) C dX1_takeFrom_69 (by decide) ?_
  refine r_bipush (pc := 70) (v := 6) C dX1_takeFrom_70 (by decide) ?_
  refine r_copy (pc := 72) (θ' := wF 0 (up2 (up2 (up2 (up2 (up2 F 0 (va_cpy (P 0) (F 0) 0 0 6)) 1 (va_cpy (P 1) (F 1) 0 0 6)) 2 (va_cpy (P 2) (F 2) 0 0 6)) 3 (va_cpy (P 3) (F 3) 0 0 6)) 4 (va_cpy (P 4) (F 4) 0 0 6)) ++ wF 6 P) C ⟨tw_310, cpy_n, cpy_s, cpy_i⟩ 0 0 6 dX1_takeFrom_72 rfl ⟨Nat.le_of_ble_eq_true rfl, Nat.le_of_ble_eq_true rfl⟩ rfl rfl (by decide) (by decide) (by decide) (Nat.le_of_ble_eq_true rfl) (Nat.le_of_ble_eq_true rfl) rfl ?_
  refine r_aload_n (pc := 75) C dX1_takeFrom_75 rfl rfl ?_
  refine r_aload_n (pc := 76) C dX1_takeFrom_76 rfl rfl ?_
  refine r_getfield (pc := 77) (v := .int (P 5 0)) C xf_X1_27 dX1_takeFrom_77 rfl rfl ?_
  refine r_putfield (pc := 80) (θ' := wF 0 (up2 (up2 (up2 (up2 (up2 (up2 F 0 (va_cpy (P 0) (F 0) 0 0 6)) 1 (va_cpy (P 1) (F 1) 0 0 6)) 2 (va_cpy (P 2) (F 2) 0 0 6)) 3 (va_cpy (P 3) (F 3) 0 0 6)) 4 (va_cpy (P 4) (F 4) 0 0 6)) 5 (k1 (P 5 0))) ++ wF 6 P) C xf_X1_27 xt_X1_5 dX1_takeFrom_80 rfl (Nat.le_of_ble_eq_true rfl) (fun _ => by rcases h5 with q | q <;> rw [q] <;> exact ⟨rfl, rfl⟩) rfl ?_
  refine r_aload_n (pc := 83) C dX1_takeFrom_83 rfl rfl ?_
  refine r_aload_n (pc := 84) C dX1_takeFrom_84 rfl rfl ?_
  refine r_getfield (pc := 85) (v := .int (P 6 0)) C xf_X1_47 dX1_takeFrom_85 rfl rfl ?_
  refine r_putfield (pc := 88) (θ' := wF 0 (up2 (up2 (up2 (up2 (up2 (up2 (up2 F 0 (va_cpy (P 0) (F 0) 0 0 6)) 1 (va_cpy (P 1) (F 1) 0 0 6)) 2 (va_cpy (P 2) (F 2) 0 0 6)) 3 (va_cpy (P 3) (F 3) 0 0 6)) 4 (va_cpy (P 4) (F 4) 0 0 6)) 5 (k1 (P 5 0))) 6 (k1 (P 6 0))) ++ wF 6 P) C xf_X1_47 xt_X1_6 dX1_takeFrom_88 rfl (Nat.le_of_ble_eq_true rfl) (fun _ => ⟨rfl, rfl⟩) rfl ?_
  refine r_aload_n (pc := 91) C dX1_takeFrom_91 rfl rfl ?_
  refine r_aload_n (pc := 92) C dX1_takeFrom_92 rfl rfl ?_
  refine r_getfield (pc := 93) (v := .int (P 7 0)) C xf_X1_50 dX1_takeFrom_93 rfl rfl ?_
  refine r_putfield (pc := 96) (θ' := wF 0 (up2 (up2 (up2 (up2 (up2 (up2 (up2 (up2 F 0 (va_cpy (P 0) (F 0) 0 0 6)) 1 (va_cpy (P 1) (F 1) 0 0 6)) 2 (va_cpy (P 2) (F 2) 0 0 6)) 3 (va_cpy (P 3) (F 3) 0 0 6)) 4 (va_cpy (P 4) (F 4) 0 0 6)) 5 (k1 (P 5 0))) 6 (k1 (P 6 0))) 7 (k1 (P 7 0))) ++ wF 6 P) C xf_X1_50 xt_X1_7 dX1_takeFrom_96 rfl (Nat.le_of_ble_eq_true rfl) (fun _ => ⟨rfl, rfl⟩) rfl ?_
  refine r_aload_n (pc := 99) C dX1_takeFrom_99 rfl rfl ?_
  refine r_aload_n (pc := 100) C dX1_takeFrom_100 rfl rfl ?_
  refine r_getfield (pc := 101) (v := .int (P 8 0)) C xf_X1_31 dX1_takeFrom_101 rfl rfl ?_
  refine r_putfield (pc := 104) (θ' := wF 0 (up2 (up2 (up2 (up2 (up2 (up2 (up2 (up2 (up2 F 0 (va_cpy (P 0) (F 0) 0 0 6)) 1 (va_cpy (P 1) (F 1) 0 0 6)) 2 (va_cpy (P 2) (F 2) 0 0 6)) 3 (va_cpy (P 3) (F 3) 0 0 6)) 4 (va_cpy (P 4) (F 4) 0 0 6)) 5 (k1 (P 5 0))) 6 (k1 (P 6 0))) 7 (k1 (P 7 0))) 8 (k1 (P 8 0))) ++ wF 6 P) C xf_X1_31 xt_X1_8 dX1_takeFrom_104 rfl (Nat.le_of_ble_eq_true rfl) (fun _ => ⟨rfl, rfl⟩) rfl ?_
  refine r_aload_n (pc := 107) C dX1_takeFrom_107 rfl rfl ?_
  refine r_aload_n (pc := 108) C dX1_takeFrom_108 rfl rfl ?_
  refine r_getfield (pc := 109) (v := .int (P 9 0)) C xf_X1_35 dX1_takeFrom_109 rfl rfl ?_
  refine r_putfield (pc := 112) (θ' := wF 0 (up2 (up2 (up2 (up2 (up2 (up2 (up2 (up2 (up2 (up2 F 0 (va_cpy (P 0) (F 0) 0 0 6)) 1 (va_cpy (P 1) (F 1) 0 0 6)) 2 (va_cpy (P 2) (F 2) 0 0 6)) 3 (va_cpy (P 3) (F 3) 0 0 6)) 4 (va_cpy (P 4) (F 4) 0 0 6)) 5 (k1 (P 5 0))) 6 (k1 (P 6 0))) 7 (k1 (P 7 0))) 8 (k1 (P 8 0))) 9 (k1 (P 9 0))) ++ wF 6 P) C xf_X1_35 xt_X1_9 dX1_takeFrom_112 rfl (Nat.le_of_ble_eq_true rfl) (fun _ => ⟨rfl, rfl⟩) rfl ?_
  refine r_aload_n (pc := 115) C dX1_takeFrom_115 rfl rfl ?_
  refine r_aload_n (pc := 116) C dX1_takeFrom_116 rfl rfl ?_
  refine r_getfield (pc := 117) (v := .int (P 10 0)) C xf_X1_38 dX1_takeFrom_117 rfl rfl ?_
  refine r_putfield (pc := 120) (θ' := wF 0 (up2 (up2 (up2 (up2 (up2 (up2 (up2 (up2 (up2 (up2 (up2 F 0 (va_cpy (P 0) (F 0) 0 0 6)) 1 (va_cpy (P 1) (F 1) 0 0 6)) 2 (va_cpy (P 2) (F 2) 0 0 6)) 3 (va_cpy (P 3) (F 3) 0 0 6)) 4 (va_cpy (P 4) (F 4) 0 0 6)) 5 (k1 (P 5 0))) 6 (k1 (P 6 0))) 7 (k1 (P 7 0))) 8 (k1 (P 8 0))) 9 (k1 (P 9 0))) 10 (k1 (P 10 0))) ++ wF 6 P) C xf_X1_38 xt_X1_10 dX1_takeFrom_120 rfl (Nat.le_of_ble_eq_true rfl) (fun _ => ⟨rfl, rfl⟩) rfl ?_
  exact E _ _ _ _ _ dX1_takeFrom_123 (Nat.le_refl _) (Nat.le_refl _) ⟨rfl, rfl⟩
end
section
def rmX6_in : Room := { frames := 0, cells := 0, slots := 0, locals := 0 }
def rmX6_isRow : Room := { frames := 1, cells := 0, slots := 0, locals := 25 }
def rmX6_sortOf : Room := { frames := 0, cells := 0, slots := 0, locals := 0 }
def rmX6_has : Room := { frames := 0, cells := 0, slots := 0, locals := 0 }
def rmX6_dip : Room := { frames := 0, cells := 0, slots := 0, locals := 0 }
def rmX6_swung : Room := { frames := 0, cells := 0, slots := 0, locals := 0 }
def rmX6_where : Room := { frames := 1, cells := 0, slots := 0, locals := 22 }
def rmX6_isDown : Room := { frames := 1, cells := 0, slots := 0, locals := 24 }
def rmX6_downOf : Room := { frames := 2, cells := 0, slots := 0, locals := 46 }
def rmX6_areNear : Room := { frames := 2, cells := 0, slots := 0, locals := 47 }
def rmX6_reachOf : Room := { frames := 3, cells := 0, slots := 0, locals := 71 }
def rmX6_spread : Room := { frames := 4, cells := 0, slots := 0, locals := 95 }
def rmX6_soonestOf : Room := { frames := 4, cells := 0, slots := 0, locals := 95 }
def rmX6_isTwo : Room := { frames := 1, cells := 0, slots := 0, locals := 25 }
def rmX6_isSpan : Room := { frames := 1, cells := 0, slots := 0, locals := 25 }
def rmX6_told : Room := { frames := 0, cells := 0, slots := 0, locals := 0 }
def rmX6_isOf : Room := { frames := 0, cells := 0, slots := 0, locals := 0 }
def rmX6_copies : Room := { frames := 0, cells := 0, slots := 0, locals := 0 }
set_option maxHeartbeats 4000000 in
set_option maxRecDepth 100000 in
theorem c_X6_in (v l m : Int64) : MetA yX6_in (.code yX6_in cX6_in 6 (some .boolean) :: TT) rmX6_in [.long v, .long l, .long m] ([]) (fun vr wr => vr = some (.int (bB (inS v l m))) ∧ wr = []) 0 0 := by
  refine MetA.of_i (by decide) (fun _ => Nat.le_of_ble_eq_true rfl) (Nat.le_of_ble_eq_true rfl) (fun g C E => ?_)
  replace C : Sem cX6_in RX6 "in" 6 rmX6_in g := C
  show g 0 0 ([]) 0 [some (.long v), none, some (.long l), none, some (.long m), none] []
  refine r_lload_n (pc := 0) C dX6_in_0 rfl rfl ?_
  refine r_lload_n (pc := 1) C dX6_in_1 rfl rfl ?_
  refine r_lcmp (pc := 2) C dX6_in_2 ?_
  refine r_if_lt (pc := 3) (tgt := 17) C dX6_in_3 (by decide) (fun h_3 => ?_) (fun h_3 => ?_)
  · skip
    refine r_iconst (pc := 17) (v := 0) C dX6_in_17 (by decide) ?_
    rw [lg_cmp_lt] at h_3
    exact E _ _ _ _ _ _ dX6_in_18 (Nat.le_refl _) (Nat.le_refl _) rfl ⟨congrArg (fun z => some (Value.int z)) (by simp [inS, bB, h_3]), rfl⟩
  · skip
    refine r_lload_n (pc := 6) C dX6_in_6 rfl rfl ?_
    refine r_lload (pc := 7) C dX6_in_7 rfl ?_
    refine r_lcmp (pc := 9) C dX6_in_9 ?_
    refine r_if_gt (pc := 10) (tgt := 17) C dX6_in_10 (by decide) (fun h_10 => ?_) (fun h_10 => ?_)
    · skip
      refine r_iconst (pc := 17) (v := 0) C dX6_in_17 (by decide) ?_
      rw [lg_cmp_lt] at h_3
      rw [lg_cmp_gt] at h_10
      exact E _ _ _ _ _ _ dX6_in_18 (Nat.le_refl _) (Nat.le_refl _) rfl ⟨congrArg (fun z => some (Value.int z)) (by simp [inS, bB, h_3, h_10]), rfl⟩
    · skip
      refine r_iconst (pc := 13) (v := 1) C dX6_in_13 (by decide) ?_
      refine r_goto (pc := 14) (tgt := 18) C dX6_in_14 (by decide) ?_
      rw [lg_cmp_lt] at h_3
      rw [lg_cmp_gt] at h_10
      exact E _ _ _ _ _ _ dX6_in_18 (Nat.le_refl _) (Nat.le_refl _) rfl ⟨congrArg (fun z => some (Value.int z)) (by simp [inS, bB, h_3, h_10]), rfl⟩
theorem c_X6_inI (v l m : Int32) {V L M : Int64} (hv : v.toInt64 = V) (hl : l.toInt64 = L) (hm : m.toInt64 = M) : MetA yX6_in (.code yX6_in cX6_in 6 (some .boolean) :: TT) rmX6_in [.long V, .long L, .long M] [] (fun vr wr => vr = some (.int (bB (inI v l m))) ∧ wr = []) 0 0 := by
  subst hv
  rw [← in_I v l m hl hm]
  exact c_X6_in _ _ _
set_option maxHeartbeats 4000000 in
set_option maxRecDepth 100000 in
theorem c_X6_isRow (v : Int32) : MetA yX6_isRow (.code yX6_isRow cX6_isRow 1 (some .boolean) :: TT) rmX6_isRow [.int v] ([]) (fun vr wr => vr = some (.int (bB (inI v 0 7))) ∧ wr = []) 0 0 := by
  refine MetA.of_i (by decide) (fun _ => Nat.le_of_ble_eq_true rfl) (Nat.le_of_ble_eq_true rfl) (fun g C E => ?_)
  replace C : Sem cX6_isRow RX6 "isRow" 1 rmX6_isRow g := C
  show g 0 0 ([]) 0 [some (.int v)] []
  refine r_iload_n (pc := 0) C dX6_isRow_0 rfl rfl ?_
  refine r_i2l (pc := 1) (v := v.toInt64) C dX6_isRow_1 rfl ?_
  refine r_lconst (pc := 2) (v := 0) C dX6_isRow_2 (by decide) ?_
  refine r_ldc2 (pc := 3) (v := 7) C dX6_isRow_3 tw_663 ?_
  refine r_callS0 (pc := 6) (As := [.long v.toInt64, .long 0, .long 7]) (st := []) C (c_X6_inI v 0 7 rfl (by decide) (by decide)) xm_X6_in xk_X6_57 dX6_isRow_6 (fun _ => rfl) (fun _ => rfl) rfl rfl (Nat.le_of_ble_eq_true rfl) ⟨Nat.le_of_ble_eq_true rfl, Nat.le_of_ble_eq_true rfl⟩ ⟨rfl, rfl⟩ ⟨Nat.le_of_ble_eq_true rfl, Nat.le_of_ble_eq_true rfl⟩ rfl ?_
  show g 0 0 ([]) 9 [some (.int v)] [.int (bB (inI v 0 7))]
  exact E _ _ _ _ _ _ dX6_isRow_9 (Nat.le_refl _) (Nat.le_refl _) (bB_nar _) ⟨congrArg (fun z => some (Value.int z)) (by simp []), rfl⟩
set_option maxHeartbeats 4000000 in
set_option maxRecDepth 100000 in
theorem c_X6_isTwo (v : Int32) : MetA yX6_isTwo (.code yX6_isTwo cX6_isTwo 1 (some .boolean) :: TT) rmX6_isTwo [.int v] ([]) (fun vr wr => vr = some (.int (bB (inI v 0 1))) ∧ wr = []) 0 0 := by
  refine MetA.of_i (by decide) (fun _ => Nat.le_of_ble_eq_true rfl) (Nat.le_of_ble_eq_true rfl) (fun g C E => ?_)
  replace C : Sem cX6_isTwo RX6 "isTwo" 1 rmX6_isTwo g := C
  show g 0 0 ([]) 0 [some (.int v)] []
  refine r_iload_n (pc := 0) C dX6_isTwo_0 rfl rfl ?_
  refine r_i2l (pc := 1) (v := v.toInt64) C dX6_isTwo_1 rfl ?_
  refine r_lconst (pc := 2) (v := 0) C dX6_isTwo_2 (by decide) ?_
  refine r_lconst (pc := 3) (v := 1) C dX6_isTwo_3 (by decide) ?_
  refine r_callS0 (pc := 4) (As := [.long v.toInt64, .long 0, .long 1]) (st := []) C (c_X6_inI v 0 1 rfl (by decide) (by decide)) xm_X6_in xk_X6_57 dX6_isTwo_4 (fun _ => rfl) (fun _ => rfl) rfl rfl (Nat.le_of_ble_eq_true rfl) ⟨Nat.le_of_ble_eq_true rfl, Nat.le_of_ble_eq_true rfl⟩ ⟨rfl, rfl⟩ ⟨Nat.le_of_ble_eq_true rfl, Nat.le_of_ble_eq_true rfl⟩ rfl ?_
  show g 0 0 ([]) 7 [some (.int v)] [.int (bB (inI v 0 1))]
  exact E _ _ _ _ _ _ dX6_isTwo_7 (Nat.le_refl _) (Nat.le_refl _) (bB_nar _) ⟨congrArg (fun z => some (Value.int z)) (by simp []), rfl⟩
set_option maxHeartbeats 4000000 in
set_option maxRecDepth 100000 in
theorem c_X6_isSpan (v : Int32) : MetA yX6_isSpan (.code yX6_isSpan cX6_isSpan 1 (some .boolean) :: TT) rmX6_isSpan [.int v] ([]) (fun vr wr => vr = some (.int (bB (inI v 0 60))) ∧ wr = []) 0 0 := by
  refine MetA.of_i (by decide) (fun _ => Nat.le_of_ble_eq_true rfl) (Nat.le_of_ble_eq_true rfl) (fun g C E => ?_)
  replace C : Sem cX6_isSpan RX6 "isSpan" 1 rmX6_isSpan g := C
  show g 0 0 ([]) 0 [some (.int v)] []
  refine r_iload_n (pc := 0) C dX6_isSpan_0 rfl rfl ?_
  refine r_i2l (pc := 1) (v := v.toInt64) C dX6_isSpan_1 rfl ?_
  refine r_lconst (pc := 2) (v := 0) C dX6_isSpan_2 (by decide) ?_
  refine r_ldc2 (pc := 3) (v := 60) C dX6_isSpan_3 tw_807 ?_
  refine r_callS0 (pc := 6) (As := [.long v.toInt64, .long 0, .long 60]) (st := []) C (c_X6_inI v 0 60 rfl (by decide) (by decide)) xm_X6_in xk_X6_57 dX6_isSpan_6 (fun _ => rfl) (fun _ => rfl) rfl rfl (Nat.le_of_ble_eq_true rfl) ⟨Nat.le_of_ble_eq_true rfl, Nat.le_of_ble_eq_true rfl⟩ ⟨rfl, rfl⟩ ⟨Nat.le_of_ble_eq_true rfl, Nat.le_of_ble_eq_true rfl⟩ rfl ?_
  show g 0 0 ([]) 9 [some (.int v)] [.int (bB (inI v 0 60))]
  exact E _ _ _ _ _ _ dX6_isSpan_9 (Nat.le_refl _) (Nat.le_refl _) (bB_nar _) ⟨congrArg (fun z => some (Value.int z)) (by simp []), rfl⟩
set_option maxHeartbeats 4000000 in
set_option maxRecDepth 100000 in
theorem c_X6_sortOf (v : Int32) : MetA yX6_sortOf (.code yX6_sortOf cX6_sortOf 1 (some .int) :: TT) rmX6_sortOf [.int v] ([]) (fun vr wr => vr = some (.int (sortM v)) ∧ wr = []) 0 0 := by
  refine MetA.of_i (by decide) (fun _ => Nat.le_of_ble_eq_true rfl) (Nat.le_of_ble_eq_true rfl) (fun g C E => ?_)
  replace C : Sem cX6_sortOf RX6 "sortOf" 1 rmX6_sortOf g := C
  show g 0 0 ([]) 0 [some (.int v)] []
  refine r_iload_n (pc := 0) C dX6_sortOf_0 rfl rfl ?_
  refine r_bipush (pc := 1) (v := 99) C dX6_sortOf_1 (by decide) ?_
  refine r_icmp_ne (pc := 3) (tgt := 10) C dX6_sortOf_3 (by decide) (fun h_3 => ?_) (fun h_3 => ?_)
  · skip
    refine r_iload_n (pc := 10) C dX6_sortOf_10 rfl rfl ?_
    refine r_bipush (pc := 11) (v := 115) C dX6_sortOf_11 (by decide) ?_
    refine r_icmp_ne (pc := 13) (tgt := 20) C dX6_sortOf_13 (by decide) (fun h_13 => ?_) (fun h_13 => ?_)
    · skip
      refine r_iload_n (pc := 20) C dX6_sortOf_20 rfl rfl ?_
      refine r_bipush (pc := 21) (v := 118) C dX6_sortOf_21 (by decide) ?_
      refine r_icmp_ne (pc := 23) (tgt := 30) C dX6_sortOf_23 (by decide) (fun h_23 => ?_) (fun h_23 => ?_)
      · skip
        refine r_iload_n (pc := 30) C dX6_sortOf_30 rfl rfl ?_
        refine r_bipush (pc := 31) (v := 114) C dX6_sortOf_31 (by decide) ?_
        refine r_icmp_ne (pc := 33) (tgt := 40) C dX6_sortOf_33 (by decide) (fun h_33 => ?_) (fun h_33 => ?_)
        · skip
          refine r_iload_n (pc := 40) C dX6_sortOf_40 rfl rfl ?_
          refine r_bipush (pc := 41) (v := 111) C dX6_sortOf_41 (by decide) ?_
          refine r_icmp_ne (pc := 43) (tgt := 50) C dX6_sortOf_43 (by decide) (fun h_43 => ?_) (fun h_43 => ?_)
          · skip
            refine r_iconst (pc := 50) (v := 0) C dX6_sortOf_50 (by decide) ?_
            exact E _ _ _ _ _ _ dX6_sortOf_51 (Nat.le_refl _) (Nat.le_refl _) rfl ⟨congrArg (fun z => some (Value.int z)) (by simp [sortM, h_3, h_13, h_23, h_33, h_43]), rfl⟩
          · skip
            refine r_iconst (pc := 46) (v := 5) C dX6_sortOf_46 (by decide) ?_
            refine r_goto (pc := 47) (tgt := 51) C dX6_sortOf_47 (by decide) ?_
            exact E _ _ _ _ _ _ dX6_sortOf_51 (Nat.le_refl _) (Nat.le_refl _) rfl ⟨congrArg (fun z => some (Value.int z)) (by simp [sortM, h_3, h_13, h_23, h_33, h_43]), rfl⟩
        · skip
          refine r_iconst (pc := 36) (v := 4) C dX6_sortOf_36 (by decide) ?_
          refine r_goto (pc := 37) (tgt := 51) C dX6_sortOf_37 (by decide) ?_
          exact E _ _ _ _ _ _ dX6_sortOf_51 (Nat.le_refl _) (Nat.le_refl _) rfl ⟨congrArg (fun z => some (Value.int z)) (by simp [sortM, h_3, h_13, h_23, h_33]), rfl⟩
      · skip
        refine r_iconst (pc := 26) (v := 3) C dX6_sortOf_26 (by decide) ?_
        refine r_goto (pc := 27) (tgt := 51) C dX6_sortOf_27 (by decide) ?_
        exact E _ _ _ _ _ _ dX6_sortOf_51 (Nat.le_refl _) (Nat.le_refl _) rfl ⟨congrArg (fun z => some (Value.int z)) (by simp [sortM, h_3, h_13, h_23]), rfl⟩
    · skip
      refine r_iconst (pc := 16) (v := 2) C dX6_sortOf_16 (by decide) ?_
      refine r_goto (pc := 17) (tgt := 51) C dX6_sortOf_17 (by decide) ?_
      exact E _ _ _ _ _ _ dX6_sortOf_51 (Nat.le_refl _) (Nat.le_refl _) rfl ⟨congrArg (fun z => some (Value.int z)) (by simp [sortM, h_3, h_13]), rfl⟩
  · skip
    refine r_iconst (pc := 6) (v := 1) C dX6_sortOf_6 (by decide) ?_
    refine r_goto (pc := 7) (tgt := 51) C dX6_sortOf_7 (by decide) ?_
    exact E _ _ _ _ _ _ dX6_sortOf_51 (Nat.le_refl _) (Nat.le_refl _) rfl ⟨congrArg (fun z => some (Value.int z)) (by simp [sortM, h_3]), rfl⟩
set_option maxHeartbeats 4000000 in
set_option maxRecDepth 100000 in
theorem c_X6_has (a b : Int32) : MetA yX6_has (.code yX6_has cX6_has 2 (some .boolean) :: TT) rmX6_has [.int a, .int b] ([]) (fun vr wr => vr = some (.int (bB (hasS a b))) ∧ wr = []) 0 0 := by
  refine MetA.of_i (by decide) (fun _ => Nat.le_of_ble_eq_true rfl) (Nat.le_of_ble_eq_true rfl) (fun g C E => ?_)
  replace C : Sem cX6_has RX6 "has" 2 rmX6_has g := C
  show g 0 0 ([]) 0 [some (.int a), some (.int b)] []
  refine r_iload_n (pc := 0) C dX6_has_0 rfl rfl ?_
  refine r_iload_n (pc := 1) C dX6_has_1 rfl rfl ?_
  refine r_ishr (pc := 2) C dX6_has_2 ?_
  refine r_iconst (pc := 3) (v := 1) C dX6_has_3 (by decide) ?_
  refine r_iand (pc := 4) C dX6_has_4 ?_
  refine r_iconst (pc := 5) (v := 1) C dX6_has_5 (by decide) ?_
  refine r_icmp_ne (pc := 6) (tgt := 13) C dX6_has_6 (by decide) (fun h_6 => ?_) (fun h_6 => ?_)
  · skip
    refine r_iconst (pc := 13) (v := 0) C dX6_has_13 (by decide) ?_
    exact E _ _ _ _ _ _ dX6_has_14 (Nat.le_refl _) (Nat.le_refl _) rfl ⟨congrArg (fun z => some (Value.int z)) (by simp [hasS, bB, h_6]), rfl⟩
  · skip
    refine r_iconst (pc := 9) (v := 1) C dX6_has_9 (by decide) ?_
    refine r_goto (pc := 10) (tgt := 14) C dX6_has_10 (by decide) ?_
    exact E _ _ _ _ _ _ dX6_has_14 (Nat.le_refl _) (Nat.le_refl _) rfl ⟨congrArg (fun z => some (Value.int z)) (by simp [hasS, bB, h_6]), rfl⟩
set_option maxHeartbeats 4000000 in
set_option maxRecDepth 100000 in
theorem c_X6_told (v : Int32) : MetA yX6_told (.code yX6_told cX6_told 1 (some .int) :: TT) rmX6_told [.int v] ([]) (fun vr wr => vr = some (.int (toldM v)) ∧ wr = []) 0 0 := by
  refine MetA.of_i (by decide) (fun _ => Nat.le_of_ble_eq_true rfl) (Nat.le_of_ble_eq_true rfl) (fun g C E => ?_)
  replace C : Sem cX6_told RX6 "told" 1 rmX6_told g := C
  show g 0 0 ([]) 0 [some (.int v)] []
  refine r_iload_n (pc := 0) C dX6_told_0 rfl rfl ?_
  refine r_ldc (pc := 1) (v := 1000000) C dX6_told_1 tw_834 ?_
  refine r_icmp_lt (pc := 3) (tgt := 11) C dX6_told_3 (by decide) (fun h_3 => ?_) (fun h_3 => ?_)
  · skip
    refine r_iload_n (pc := 11) C dX6_told_11 rfl rfl ?_
    exact E _ _ _ _ _ _ dX6_told_12 (Nat.le_refl _) (Nat.le_refl _) rfl ⟨congrArg (fun z => some (Value.int z)) (by simp [toldM, h_3]), rfl⟩
  · skip
    refine r_ldc (pc := 6) (v := (-1000000)) C dX6_told_6 tw_826 ?_
    refine r_goto (pc := 8) (tgt := 12) C dX6_told_8 (by decide) ?_
    exact E _ _ _ _ _ _ dX6_told_12 (Nat.le_refl _) (Nat.le_refl _) rfl ⟨congrArg (fun z => some (Value.int z)) (by simp [toldM, h_3]), rfl⟩
set_option maxHeartbeats 4000000 in
set_option maxRecDepth 100000 in
theorem c_X6_isOf (a b : Int32) : MetA yX6_isOf (.code yX6_isOf cX6_isOf 2 (some .boolean) :: TT) rmX6_isOf [.int a, .int b] ([]) (fun vr wr => vr = some (.int (bB (isOfM a b))) ∧ wr = []) 0 0 := by
  refine MetA.of_i (by decide) (fun _ => Nat.le_of_ble_eq_true rfl) (Nat.le_of_ble_eq_true rfl) (fun g C E => ?_)
  replace C : Sem cX6_isOf RX6 "isOf" 2 rmX6_isOf g := C
  show g 0 0 ([]) 0 [some (.int a), some (.int b)] []
  refine r_iload_n (pc := 0) C dX6_isOf_0 rfl rfl ?_
  refine r_if_eq (pc := 1) (tgt := 34) C dX6_isOf_1 (by decide) (fun h_1 => ?_) (fun h_1 => ?_)
  · skip
    refine r_iconst (pc := 34) (v := 1) C dX6_isOf_34 (by decide) ?_
    refine r_goto (pc := 35) (tgt := 39) C dX6_isOf_35 (by decide) ?_
    exact E _ _ _ _ _ _ dX6_isOf_39 (Nat.le_refl _) (Nat.le_refl _) rfl ⟨congrArg (fun z => some (Value.int z)) (by clear C E; simp_all [isOfM, bB]), rfl⟩
  · skip
    refine r_iload_n (pc := 4) C dX6_isOf_4 rfl rfl ?_
    refine r_iload_n (pc := 5) C dX6_isOf_5 rfl rfl ?_
    refine r_icmp_eq (pc := 6) (tgt := 34) C dX6_isOf_6 (by decide) (fun h_6 => ?_) (fun h_6 => ?_)
    · skip
      refine r_iconst (pc := 34) (v := 1) C dX6_isOf_34 (by decide) ?_
      refine r_goto (pc := 35) (tgt := 39) C dX6_isOf_35 (by decide) ?_
      exact E _ _ _ _ _ _ dX6_isOf_39 (Nat.le_refl _) (Nat.le_refl _) rfl ⟨congrArg (fun z => some (Value.int z)) (by clear C E; simp_all [isOfM, bB]), rfl⟩
    · skip
      refine r_iload_n (pc := 9) C dX6_isOf_9 rfl rfl ?_
      refine r_iconst (pc := 10) (v := 1) C dX6_isOf_10 (by decide) ?_
      refine r_icmp_ne (pc := 11) (tgt := 24) C dX6_isOf_11 (by decide) (fun h_11 => ?_) (fun h_11 => ?_)
      · skip
        refine r_iload_n (pc := 24) C dX6_isOf_24 rfl rfl ?_
        refine r_iconst (pc := 25) (v := 4) C dX6_isOf_25 (by decide) ?_
        refine r_icmp_ne (pc := 26) (tgt := 38) C dX6_isOf_26 (by decide) (fun h_26 => ?_) (fun h_26 => ?_)
        · skip
          refine r_iconst (pc := 38) (v := 0) C dX6_isOf_38 (by decide) ?_
          exact E _ _ _ _ _ _ dX6_isOf_39 (Nat.le_refl _) (Nat.le_refl _) rfl ⟨congrArg (fun z => some (Value.int z)) (by clear C E; simp_all [isOfM, bB]), rfl⟩
        · skip
          refine r_iload_n (pc := 29) C dX6_isOf_29 rfl rfl ?_
          refine r_iconst (pc := 30) (v := 5) C dX6_isOf_30 (by decide) ?_
          refine r_icmp_ne (pc := 31) (tgt := 38) C dX6_isOf_31 (by decide) (fun h_31 => ?_) (fun h_31 => ?_)
          · skip
            refine r_iconst (pc := 38) (v := 0) C dX6_isOf_38 (by decide) ?_
            exact E _ _ _ _ _ _ dX6_isOf_39 (Nat.le_refl _) (Nat.le_refl _) rfl ⟨congrArg (fun z => some (Value.int z)) (by clear C E; simp_all [isOfM, bB]), rfl⟩
          · skip
            refine r_iconst (pc := 34) (v := 1) C dX6_isOf_34 (by decide) ?_
            refine r_goto (pc := 35) (tgt := 39) C dX6_isOf_35 (by decide) ?_
            exact E _ _ _ _ _ _ dX6_isOf_39 (Nat.le_refl _) (Nat.le_refl _) rfl ⟨congrArg (fun z => some (Value.int z)) (by clear C E; simp_all [isOfM, bB]), rfl⟩
      · skip
        refine r_iload_n (pc := 14) C dX6_isOf_14 rfl rfl ?_
        refine r_iconst (pc := 15) (v := 2) C dX6_isOf_15 (by decide) ?_
        refine r_icmp_eq (pc := 16) (tgt := 34) C dX6_isOf_16 (by decide) (fun h_16 => ?_) (fun h_16 => ?_)
        · skip
          refine r_iconst (pc := 34) (v := 1) C dX6_isOf_34 (by decide) ?_
          refine r_goto (pc := 35) (tgt := 39) C dX6_isOf_35 (by decide) ?_
          exact E _ _ _ _ _ _ dX6_isOf_39 (Nat.le_refl _) (Nat.le_refl _) rfl ⟨congrArg (fun z => some (Value.int z)) (by clear C E; simp_all [isOfM, bB]), rfl⟩
        · skip
          refine r_iload_n (pc := 19) C dX6_isOf_19 rfl rfl ?_
          refine r_iconst (pc := 20) (v := 3) C dX6_isOf_20 (by decide) ?_
          refine r_icmp_eq (pc := 21) (tgt := 34) C dX6_isOf_21 (by decide) (fun h_21 => ?_) (fun h_21 => ?_)
          · skip
            refine r_iconst (pc := 34) (v := 1) C dX6_isOf_34 (by decide) ?_
            refine r_goto (pc := 35) (tgt := 39) C dX6_isOf_35 (by decide) ?_
            exact E _ _ _ _ _ _ dX6_isOf_39 (Nat.le_refl _) (Nat.le_refl _) rfl ⟨congrArg (fun z => some (Value.int z)) (by clear C E; simp_all [isOfM, bB]), rfl⟩
          · skip
            refine r_iload_n (pc := 24) C dX6_isOf_24 rfl rfl ?_
            refine r_iconst (pc := 25) (v := 4) C dX6_isOf_25 (by decide) ?_
            refine r_icmp_ne (pc := 26) (tgt := 38) C dX6_isOf_26 (by decide) (fun h_26 => ?_) (fun h_26 => ?_)
            · skip
              refine r_iconst (pc := 38) (v := 0) C dX6_isOf_38 (by decide) ?_
              exact E _ _ _ _ _ _ dX6_isOf_39 (Nat.le_refl _) (Nat.le_refl _) rfl ⟨congrArg (fun z => some (Value.int z)) (by clear C E; simp_all [isOfM, bB]), rfl⟩
            · skip
              refine r_iload_n (pc := 29) C dX6_isOf_29 rfl rfl ?_
              refine r_iconst (pc := 30) (v := 5) C dX6_isOf_30 (by decide) ?_
              refine r_icmp_ne (pc := 31) (tgt := 38) C dX6_isOf_31 (by decide) (fun h_31 => ?_) (fun h_31 => ?_)
              · skip
                refine r_iconst (pc := 38) (v := 0) C dX6_isOf_38 (by decide) ?_
                exact E _ _ _ _ _ _ dX6_isOf_39 (Nat.le_refl _) (Nat.le_refl _) rfl ⟨congrArg (fun z => some (Value.int z)) (by clear C E; simp_all [isOfM, bB]), rfl⟩
              · skip
                refine r_iconst (pc := 34) (v := 1) C dX6_isOf_34 (by decide) ?_
                refine r_goto (pc := 35) (tgt := 39) C dX6_isOf_35 (by decide) ?_
                exact E _ _ _ _ _ _ dX6_isOf_39 (Nat.le_refl _) (Nat.le_refl _) rfl ⟨congrArg (fun z => some (Value.int z)) (by clear C E; simp_all [isOfM, bB]), rfl⟩
set_option maxHeartbeats 4000000 in
set_option maxRecDepth 100000 in
theorem c_X6_swung (t sw : Int32) (hw : ∃ w, w ≤ 5 ∧ sw = nI w) : MetA yX6_swung (.code yX6_swung cX6_swung 3 (some .int) :: TT) rmX6_swung [.int t, .int sw] ([]) (fun vr wr => vr = some (.int (swS sw t)) ∧ wr = []) 0 0 := by
  refine MetA.of_i (by decide) (fun _ => Nat.le_of_ble_eq_true rfl) (Nat.le_of_ble_eq_true rfl) (fun g C E => ?_)
  replace C : Sem cX6_swung RX6 "swung" 3 rmX6_swung g := C
  show g 0 0 ([]) 0 [some (.int t), some (.int sw), none] []
  refine r_iload_n (pc := 0) C dX6_swung_0 rfl rfl ?_
  refine r_if_ne (pc := 1) (tgt := 6) C dX6_swung_1 (by decide) (fun h_1 => ?_) (fun h_1 => ?_)
  · skip
    refine r_iload_n (pc := 6) C dX6_swung_6 rfl rfl ?_
    refine r_iconst (pc := 7) (v := 4) C dX6_swung_7 (by decide) ?_
    refine r_iload_n (pc := 8) C dX6_swung_8 rfl rfl ?_
    refine r_imul (pc := 9) C dX6_swung_9 ?_
    refine r_irem (pc := 10) C dX6_swung_10 ((sw0 hw).2 h_1).2 ?_
    show g 0 0 ([]) 11 [some (.int t), some (.int sw), none] [.int (rmI t (4 * sw))]
    refine r_istore_n (pc := 11) (lv' := [some (.int t), some (.int sw), some (.int (rmI t (4 * sw)))]) C dX6_swung_11 rfl (Nat.le_of_ble_eq_true rfl) trivial rfl ?_
    refine r_iload_n (pc := 12) C dX6_swung_12 rfl rfl ?_
    refine r_iload_n (pc := 13) C dX6_swung_13 rfl rfl ?_
    refine r_icmp_gt (pc := 14) (tgt := 21) C dX6_swung_14 (by decide) (fun h_14 => ?_) (fun h_14 => ?_)
    · skip
      refine r_iload_n (pc := 21) C dX6_swung_21 rfl rfl ?_
      refine r_iconst (pc := 22) (v := 3) C dX6_swung_22 (by decide) ?_
      refine r_iload_n (pc := 23) C dX6_swung_23 rfl rfl ?_
      refine r_imul (pc := 24) C dX6_swung_24 ?_
      refine r_icmp_gt (pc := 25) (tgt := 36) C dX6_swung_25 (by decide) (fun h_25 => ?_) (fun h_25 => ?_)
      · skip
        refine r_iload_n (pc := 36) C dX6_swung_36 rfl rfl ?_
        refine r_iconst (pc := 37) (v := 4) C dX6_swung_37 (by decide) ?_
        refine r_iload_n (pc := 38) C dX6_swung_38 rfl rfl ?_
        refine r_imul (pc := 39) C dX6_swung_39 ?_
        refine r_isub (pc := 40) C dX6_swung_40 ?_
        exact E _ _ _ _ _ _ dX6_swung_41 (Nat.le_refl _) (Nat.le_refl _) rfl ⟨congrArg (fun z => some (Value.int z)) (by simp [swS, (sw0 hw).1, (sw0 hw).2, Int32.not_lt, Int32.not_le, h_1, h_14, h_25]), rfl⟩
      · skip
        refine r_iconst (pc := 28) (v := 2) C dX6_swung_28 (by decide) ?_
        refine r_iload_n (pc := 29) C dX6_swung_29 rfl rfl ?_
        refine r_imul (pc := 30) C dX6_swung_30 ?_
        refine r_iload_n (pc := 31) C dX6_swung_31 rfl rfl ?_
        refine r_isub (pc := 32) C dX6_swung_32 ?_
        refine r_goto (pc := 33) (tgt := 41) C dX6_swung_33 (by decide) ?_
        exact E _ _ _ _ _ _ dX6_swung_41 (Nat.le_refl _) (Nat.le_refl _) rfl ⟨congrArg (fun z => some (Value.int z)) (by simp [swS, (sw0 hw).1, (sw0 hw).2, Int32.not_lt, Int32.not_le, h_1, h_14, h_25]), rfl⟩
    · skip
      refine r_iload_n (pc := 17) C dX6_swung_17 rfl rfl ?_
      refine r_goto (pc := 18) (tgt := 41) C dX6_swung_18 (by decide) ?_
      exact E _ _ _ _ _ _ dX6_swung_41 (Nat.le_refl _) (Nat.le_refl _) rfl ⟨congrArg (fun z => some (Value.int z)) (by simp [swS, (sw0 hw).1, (sw0 hw).2, Int32.not_lt, Int32.not_le, h_1, h_14]), rfl⟩
  · skip
    refine r_iconst (pc := 4) (v := 0) C dX6_swung_4 (by decide) ?_
    exact E _ _ _ _ _ _ dX6_swung_5 (Nat.le_refl _) (Nat.le_refl _) rfl ⟨congrArg (fun z => some (Value.int z)) (by simp [swS, (sw0 hw).1, (sw0 hw).2, Int32.not_lt, Int32.not_le, h_1]), rfl⟩
set_option maxHeartbeats 4000000 in
set_option maxRecDepth 100000 in
theorem c_X6_dip (t : Nat → Int32) (i : Nat) (hi : i < 6) (m : Int32) (hk : okK (vw t) i) : MetA yX6_dip (.code yX6_dip cX6_dip 5 (some .int) :: TT) rmX6_dip [.ref 0, .int (nI i), .int m] ([.inl (0, 36, .inl t)]) (fun vr wr => vr = some (.int (dipS (vw t) i m)) ∧ wr = [.inl (0, 36, .inl t)]) 0 0 := by
  refine MetA.of_i (by decide) (fun _ => Nat.le_of_ble_eq_true rfl) (Nat.le_of_ble_eq_true rfl) (fun g C E => ?_)
  replace C : Sem cX6_dip RX6 "dip" 5 rmX6_dip g := C
  show g 0 0 ([.inl (0, 36, .inl t)]) 0 [some (.ref 0), some (.int (nI i)), some (.int m), none, none] []
  refine r_aload_n (pc := 0) C dX6_dip_0 rfl rfl ?_
  refine r_bipush (pc := 1) (v := 16) C dX6_dip_1 (by decide) ?_
  refine r_iload_n (pc := 3) C dX6_dip_3 rfl rfl ?_
  refine r_iadd (pc := 4) C dX6_dip_4 ?_
  refine r_iaload (pc := 5) (v := t (16 + i)) C (16 + i) dX6_dip_5 rfl (nI_sum rfl rfl) (by first | assumption | omega) rfl ?_
  refine r_aload_n (pc := 6) C dX6_dip_6 rfl rfl ?_
  refine r_bipush (pc := 7) (v := 10) C dX6_dip_7 (by decide) ?_
  refine r_iload_n (pc := 9) C dX6_dip_9 rfl rfl ?_
  refine r_iadd (pc := 10) C dX6_dip_10 ?_
  refine r_iaload (pc := 11) (v := t (10 + i)) C (10 + i) dX6_dip_11 rfl (nI_sum rfl rfl) (by first | assumption | omega) rfl ?_
  refine r_isub (pc := 12) C dX6_dip_12 ?_
  refine r_istore_n (pc := 13) (lv' := [some (.ref 0), some (.int (nI i)), some (.int m), some (.int ((t (16 + i)) - (t (10 + i)))), none]) C dX6_dip_13 rfl (Nat.le_of_ble_eq_true rfl) trivial rfl ?_
  refine r_aload_n (pc := 14) C dX6_dip_14 rfl rfl ?_
  refine r_bipush (pc := 15) (v := 22) C dX6_dip_15 (by decide) ?_
  refine r_iload_n (pc := 17) C dX6_dip_17 rfl rfl ?_
  refine r_iadd (pc := 18) C dX6_dip_18 ?_
  refine r_iaload (pc := 19) (v := t (22 + i)) C (22 + i) dX6_dip_19 rfl (nI_sum rfl rfl) (by first | assumption | omega) rfl ?_
  refine r_iload_n (pc := 20) C dX6_dip_20 rfl rfl ?_
  refine r_iconst (pc := 21) (v := 2) C dX6_dip_21 (by decide) ?_
  refine r_idiv (pc := 22) C dX6_dip_22 (by decide) ?_
  refine r_iadd (pc := 23) C dX6_dip_23 ?_
  refine r_istore (pc := 24) (lv' := [some (.ref 0), some (.int (nI i)), some (.int m), some (.int ((t (16 + i)) - (t (10 + i)))), some (.int ((t (22 + i)) + (((t (16 + i)) - (t (10 + i))) / 2)))]) C dX6_dip_24 (Nat.le_of_ble_eq_true rfl) trivial rfl ?_
  refine r_aload_n (pc := 26) C dX6_dip_26 rfl rfl ?_
  refine r_iconst (pc := 27) (v := 4) C dX6_dip_27 (by decide) ?_
  refine r_iload_n (pc := 28) C dX6_dip_28 rfl rfl ?_
  refine r_iadd (pc := 29) C dX6_dip_29 ?_
  refine r_iaload (pc := 30) (v := t (4 + i)) C (4 + i) dX6_dip_30 rfl (nI_sum rfl rfl) (by first | assumption | omega) rfl ?_
  by_cases q_31_1 : t (4 + i) = 1
  · refine r_tableIn (pc := 31) (off := 29) (tgt := 60) C dX6_dip_31 (by rw [q_31_1]; decide) (by rw [q_31_1]; decide) (by rw [q_31_1]; rfl) (by decide) ?_
    refine r_iload (pc := 60) C dX6_dip_60 rfl ?_
    exact E _ _ _ _ _ _ dX6_dip_62 (Nat.le_refl _) (Nat.le_refl _) rfl ⟨congrArg (fun z => some (Value.int z)) (by clear C E; rcases hk with q | q | q | q | q <;> simp only [vw] at q <;> simp_all [dipS, vw]), rfl⟩
  by_cases q_31_2 : t (4 + i) = 2
  · refine r_tableIn (pc := 31) (off := 32) (tgt := 63) C dX6_dip_31 (by rw [q_31_2]; decide) (by rw [q_31_2]; decide) (by rw [q_31_2]; rfl) (by decide) ?_
    refine r_iload (pc := 63) C dX6_dip_63 rfl ?_
    refine r_iconst (pc := 65) (v := 2) C dX6_dip_65 (by decide) ?_
    refine r_idiv (pc := 66) C dX6_dip_66 (by decide) ?_
    exact E _ _ _ _ _ _ dX6_dip_67 (Nat.le_refl _) (Nat.le_refl _) rfl ⟨congrArg (fun z => some (Value.int z)) (by clear C E; rcases hk with q | q | q | q | q <;> simp only [vw] at q <;> simp_all [dipS, vw]), rfl⟩
  by_cases q_31_3 : t (4 + i) = 3
  · refine r_tableIn (pc := 31) (off := 37) (tgt := 68) C dX6_dip_31 (by rw [q_31_3]; decide) (by rw [q_31_3]; decide) (by rw [q_31_3]; rfl) (by decide) ?_
    refine r_iload (pc := 68) C dX6_dip_68 rfl ?_
    refine r_iload_n (pc := 70) C dX6_dip_70 rfl rfl ?_
    refine r_bipush (pc := 71) (v := 10) C dX6_dip_71 (by decide) ?_
    refine r_idiv (pc := 73) C dX6_dip_73 (by decide) ?_
    refine r_iadd (pc := 74) C dX6_dip_74 ?_
    exact E _ _ _ _ _ _ dX6_dip_75 (Nat.le_refl _) (Nat.le_refl _) rfl ⟨congrArg (fun z => some (Value.int z)) (by clear C E; rcases hk with q | q | q | q | q <;> simp only [vw] at q <;> simp_all [dipS, vw]), rfl⟩
  by_cases q_31_4 : t (4 + i) = 4
  · refine r_tableIn (pc := 31) (off := 45) (tgt := 76) C dX6_dip_31 (by rw [q_31_4]; decide) (by rw [q_31_4]; decide) (by rw [q_31_4]; rfl) (by decide) ?_
    refine r_iload_n (pc := 76) C dX6_dip_76 rfl rfl ?_
    exact E _ _ _ _ _ _ dX6_dip_77 (Nat.le_refl _) (Nat.le_refl _) rfl ⟨congrArg (fun z => some (Value.int z)) (by clear C E; rcases hk with q | q | q | q | q <;> simp only [vw] at q <;> simp_all [dipS, vw]), rfl⟩
  refine r_tableOut (pc := 31) (tgt := 78) C dX6_dip_31 (by have t_1 := lv_neT (a := 1) q_31_1 rfl; have t_2 := lv_neT (a := 2) q_31_2 rfl; have t_3 := lv_neT (a := 3) q_31_3 rfl; have t_4 := lv_neT (a := 4) q_31_4 rfl; omega) (by decide) ?_
  refine r_iconst (pc := 78) (v := 0) C dX6_dip_78 (by decide) ?_
  exact E _ _ _ _ _ _ dX6_dip_79 (Nat.le_refl _) (Nat.le_refl _) rfl ⟨congrArg (fun z => some (Value.int z)) (by clear C E; rcases hk with q | q | q | q | q <;> simp only [vw] at q <;> simp_all [dipS, vw]), rfl⟩
set_option maxHeartbeats 4000000 in
set_option maxRecDepth 100000 in
theorem c_X6_where (t : Nat → Int32) (i : Nat) (hi : i < 6) (m : Int32) (hk : okK (vw t) i) (hW : okW (vw t)) : MetA yX6_where (.code yX6_where cX6_where 6 (some .int) :: TT) rmX6_where [.ref 0, .int (nI i), .int m] ([.inl (0, 36, .inl t)]) (fun vr wr => vr = some (.int (plS (vw t) i m)) ∧ wr = [.inl (0, 36, .inl t)]) 0 0 := by
  refine MetA.of_i (by decide) (fun _ => Nat.le_of_ble_eq_true rfl) (Nat.le_of_ble_eq_true rfl) (fun g C E => ?_)
  replace C : Sem cX6_where RX6 "where" 6 rmX6_where g := C
  show g 0 0 ([.inl (0, 36, .inl t)]) 0 [some (.ref 0), some (.int (nI i)), some (.int m), none, none, none] []
  refine r_aload_n (pc := 0) C dX6_where_0 rfl rfl ?_
  refine r_iconst (pc := 1) (v := 4) C dX6_where_1 (by decide) ?_
  refine r_iload_n (pc := 2) C dX6_where_2 rfl rfl ?_
  refine r_iadd (pc := 3) C dX6_where_3 ?_
  refine r_iaload (pc := 4) (v := t (4 + i)) C (4 + i) dX6_where_4 rfl (nI_sum rfl rfl) (by first | assumption | omega) rfl ?_
  refine r_istore_n (pc := 5) (lv' := [some (.ref 0), some (.int (nI i)), some (.int m), some (.int (t (4 + i))), none, none]) C dX6_where_5 rfl (Nat.le_of_ble_eq_true rfl) trivial rfl ?_
  refine r_aload_n (pc := 6) C dX6_where_6 rfl rfl ?_
  refine r_bipush (pc := 7) (v := 28) C dX6_where_7 (by decide) ?_
  refine r_iload_n (pc := 9) C dX6_where_9 rfl rfl ?_
  refine r_iadd (pc := 10) C dX6_where_10 ?_
  refine r_iaload (pc := 11) (v := t (28 + i)) C (28 + i) dX6_where_11 rfl (nI_sum rfl rfl) (by first | assumption | omega) rfl ?_
  refine r_istore (pc := 12) (lv' := [some (.ref 0), some (.int (nI i)), some (.int m), some (.int (t (4 + i))), some (.int (t (28 + i))), none]) C dX6_where_12 (Nat.le_of_ble_eq_true rfl) trivial rfl ?_
  refine r_iload_n (pc := 14) C dX6_where_14 rfl rfl ?_
  refine r_iconst (pc := 15) (v := 1) C dX6_where_15 (by decide) ?_
  refine r_icmp_eq (pc := 16) (tgt := 24) C dX6_where_16 (by decide) (fun h_16 => ?_) (fun h_16 => ?_)
  · skip
    refine r_iload_n (pc := 24) C dX6_where_24 rfl rfl ?_
    refine r_iload (pc := 25) C dX6_where_25 rfl ?_
    refine r_callS0 (pc := 27) (As := [.int m, .int (t (28 + i))]) (st := []) C (c_X6_swung m (t (28 + i)) (hW i hi)) xm_X6_swung xk_X6_139 dX6_where_27 (fun _ => rfl) (fun _ => rfl) rfl rfl (Nat.le_of_ble_eq_true rfl) ⟨Nat.le_of_ble_eq_true rfl, Nat.le_of_ble_eq_true rfl⟩ ⟨rfl, rfl⟩ ⟨Nat.le_of_ble_eq_true rfl, Nat.le_of_ble_eq_true rfl⟩ rfl ?_
    show g 0 0 ([.inl (0, 36, .inl t)]) 30 [some (.ref 0), some (.int (nI i)), some (.int m), some (.int (t (4 + i))), some (.int (t (28 + i))), none] [.int (swS (t (28 + i)) m)]
    refine r_goto (pc := 30) (tgt := 60) C dX6_where_30 (by decide) ?_
    refine r_istore (pc := 60) (lv' := [some (.ref 0), some (.int (nI i)), some (.int m), some (.int (t (4 + i))), some (.int (t (28 + i))), some (.int (swS (t (28 + i)) m))]) C dX6_where_60 (Nat.le_of_ble_eq_true rfl) trivial rfl ?_
    refine r_aload_n (pc := 62) C dX6_where_62 rfl rfl ?_
    refine r_bipush (pc := 63) (v := 10) C dX6_where_63 (by decide) ?_
    refine r_iload_n (pc := 65) C dX6_where_65 rfl rfl ?_
    refine r_iadd (pc := 66) C dX6_where_66 ?_
    refine r_iaload (pc := 67) (v := t (10 + i)) C (10 + i) dX6_where_67 rfl (nI_sum rfl rfl) (by first | assumption | omega) rfl ?_
    refine r_aload_n (pc := 68) C dX6_where_68 rfl rfl ?_
    refine r_bipush (pc := 69) (v := 16) C dX6_where_69 (by decide) ?_
    refine r_iload_n (pc := 71) C dX6_where_71 rfl rfl ?_
    refine r_iadd (pc := 72) C dX6_where_72 ?_
    refine r_iaload (pc := 73) (v := t (16 + i)) C (16 + i) dX6_where_73 rfl (nI_sum rfl rfl) (by first | assumption | omega) rfl ?_
    refine r_iadd (pc := 74) C dX6_where_74 ?_
    refine r_iconst (pc := 75) (v := 2) C dX6_where_75 (by decide) ?_
    refine r_iload (pc := 76) C dX6_where_76 rfl ?_
    refine r_imul (pc := 78) C dX6_where_78 ?_
    refine r_iadd (pc := 79) C dX6_where_79 ?_
    exact E _ _ _ _ _ _ dX6_where_80 (Nat.le_refl _) (Nat.le_refl _) rfl ⟨congrArg (fun z => some (Value.int z)) (by clear C E; rcases hk with q | q | q | q | q <;> simp only [vw] at q <;> simp_all [plS, offS, vw]), rfl⟩
  · skip
    refine r_iload_n (pc := 19) C dX6_where_19 rfl rfl ?_
    refine r_iconst (pc := 20) (v := 2) C dX6_where_20 (by decide) ?_
    refine r_icmp_ne (pc := 21) (tgt := 33) C dX6_where_21 (by decide) (fun h_21 => ?_) (fun h_21 => ?_)
    · skip
      refine r_iload_n (pc := 33) C dX6_where_33 rfl rfl ?_
      refine r_iconst (pc := 34) (v := 3) C dX6_where_34 (by decide) ?_
      refine r_icmp_ne (pc := 35) (tgt := 49) C dX6_where_35 (by decide) (fun h_35 => ?_) (fun h_35 => ?_)
      · skip
        refine r_iload_n (pc := 49) C dX6_where_49 rfl rfl ?_
        refine r_iconst (pc := 50) (v := 4) C dX6_where_50 (by decide) ?_
        refine r_icmp_ne (pc := 51) (tgt := 58) C dX6_where_51 (by decide) (fun h_51 => ?_) (fun h_51 => ?_)
        · skip
          refine r_iload (pc := 58) C dX6_where_58 rfl ?_
          refine r_istore (pc := 60) (lv' := [some (.ref 0), some (.int (nI i)), some (.int m), some (.int (t (4 + i))), some (.int (t (28 + i))), some (.int (t (28 + i)))]) C dX6_where_60 (Nat.le_of_ble_eq_true rfl) trivial rfl ?_
          refine r_aload_n (pc := 62) C dX6_where_62 rfl rfl ?_
          refine r_bipush (pc := 63) (v := 10) C dX6_where_63 (by decide) ?_
          refine r_iload_n (pc := 65) C dX6_where_65 rfl rfl ?_
          refine r_iadd (pc := 66) C dX6_where_66 ?_
          refine r_iaload (pc := 67) (v := t (10 + i)) C (10 + i) dX6_where_67 rfl (nI_sum rfl rfl) (by first | assumption | omega) rfl ?_
          refine r_aload_n (pc := 68) C dX6_where_68 rfl rfl ?_
          refine r_bipush (pc := 69) (v := 16) C dX6_where_69 (by decide) ?_
          refine r_iload_n (pc := 71) C dX6_where_71 rfl rfl ?_
          refine r_iadd (pc := 72) C dX6_where_72 ?_
          refine r_iaload (pc := 73) (v := t (16 + i)) C (16 + i) dX6_where_73 rfl (nI_sum rfl rfl) (by first | assumption | omega) rfl ?_
          refine r_iadd (pc := 74) C dX6_where_74 ?_
          refine r_iconst (pc := 75) (v := 2) C dX6_where_75 (by decide) ?_
          refine r_iload (pc := 76) C dX6_where_76 rfl ?_
          refine r_imul (pc := 78) C dX6_where_78 ?_
          refine r_iadd (pc := 79) C dX6_where_79 ?_
          exact E _ _ _ _ _ _ dX6_where_80 (Nat.le_refl _) (Nat.le_refl _) rfl ⟨congrArg (fun z => some (Value.int z)) (by clear C E; rcases hk with q | q | q | q | q <;> simp only [vw] at q <;> simp_all [plS, offS, vw]), rfl⟩
        · skip
          refine r_iconst (pc := 54) (v := 0) C dX6_where_54 (by decide) ?_
          refine r_goto (pc := 55) (tgt := 60) C dX6_where_55 (by decide) ?_
          refine r_istore (pc := 60) (lv' := [some (.ref 0), some (.int (nI i)), some (.int m), some (.int (t (4 + i))), some (.int (t (28 + i))), some (.int 0)]) C dX6_where_60 (Nat.le_of_ble_eq_true rfl) trivial rfl ?_
          refine r_aload_n (pc := 62) C dX6_where_62 rfl rfl ?_
          refine r_bipush (pc := 63) (v := 10) C dX6_where_63 (by decide) ?_
          refine r_iload_n (pc := 65) C dX6_where_65 rfl rfl ?_
          refine r_iadd (pc := 66) C dX6_where_66 ?_
          refine r_iaload (pc := 67) (v := t (10 + i)) C (10 + i) dX6_where_67 rfl (nI_sum rfl rfl) (by first | assumption | omega) rfl ?_
          refine r_aload_n (pc := 68) C dX6_where_68 rfl rfl ?_
          refine r_bipush (pc := 69) (v := 16) C dX6_where_69 (by decide) ?_
          refine r_iload_n (pc := 71) C dX6_where_71 rfl rfl ?_
          refine r_iadd (pc := 72) C dX6_where_72 ?_
          refine r_iaload (pc := 73) (v := t (16 + i)) C (16 + i) dX6_where_73 rfl (nI_sum rfl rfl) (by first | assumption | omega) rfl ?_
          refine r_iadd (pc := 74) C dX6_where_74 ?_
          refine r_iconst (pc := 75) (v := 2) C dX6_where_75 (by decide) ?_
          refine r_iload (pc := 76) C dX6_where_76 rfl ?_
          refine r_imul (pc := 78) C dX6_where_78 ?_
          refine r_iadd (pc := 79) C dX6_where_79 ?_
          exact E _ _ _ _ _ _ dX6_where_80 (Nat.le_refl _) (Nat.le_refl _) rfl ⟨congrArg (fun z => some (Value.int z)) (by clear C E; rcases hk with q | q | q | q | q <;> simp only [vw] at q <;> simp_all [plS, offS, vw]), rfl⟩
      · skip
        refine r_iload_n (pc := 38) C dX6_where_38 rfl rfl ?_
        refine r_iconst (pc := 39) (v := 2) C dX6_where_39 (by decide) ?_
        refine r_idiv (pc := 40) C dX6_where_40 (by decide) ?_
        refine r_iload (pc := 41) C dX6_where_41 rfl ?_
        refine r_callS0 (pc := 43) (As := [.int (m / 2), .int (t (28 + i))]) (st := []) C (c_X6_swung (m / 2) (t (28 + i)) (hW i hi)) xm_X6_swung xk_X6_139 dX6_where_43 (fun _ => rfl) (fun _ => rfl) rfl rfl (Nat.le_of_ble_eq_true rfl) ⟨Nat.le_of_ble_eq_true rfl, Nat.le_of_ble_eq_true rfl⟩ ⟨rfl, rfl⟩ ⟨Nat.le_of_ble_eq_true rfl, Nat.le_of_ble_eq_true rfl⟩ rfl ?_
        show g 0 0 ([.inl (0, 36, .inl t)]) 46 [some (.ref 0), some (.int (nI i)), some (.int m), some (.int (t (4 + i))), some (.int (t (28 + i))), none] [.int (swS (t (28 + i)) (m / 2))]
        refine r_goto (pc := 46) (tgt := 60) C dX6_where_46 (by decide) ?_
        refine r_istore (pc := 60) (lv' := [some (.ref 0), some (.int (nI i)), some (.int m), some (.int (t (4 + i))), some (.int (t (28 + i))), some (.int (swS (t (28 + i)) (m / 2)))]) C dX6_where_60 (Nat.le_of_ble_eq_true rfl) trivial rfl ?_
        refine r_aload_n (pc := 62) C dX6_where_62 rfl rfl ?_
        refine r_bipush (pc := 63) (v := 10) C dX6_where_63 (by decide) ?_
        refine r_iload_n (pc := 65) C dX6_where_65 rfl rfl ?_
        refine r_iadd (pc := 66) C dX6_where_66 ?_
        refine r_iaload (pc := 67) (v := t (10 + i)) C (10 + i) dX6_where_67 rfl (nI_sum rfl rfl) (by first | assumption | omega) rfl ?_
        refine r_aload_n (pc := 68) C dX6_where_68 rfl rfl ?_
        refine r_bipush (pc := 69) (v := 16) C dX6_where_69 (by decide) ?_
        refine r_iload_n (pc := 71) C dX6_where_71 rfl rfl ?_
        refine r_iadd (pc := 72) C dX6_where_72 ?_
        refine r_iaload (pc := 73) (v := t (16 + i)) C (16 + i) dX6_where_73 rfl (nI_sum rfl rfl) (by first | assumption | omega) rfl ?_
        refine r_iadd (pc := 74) C dX6_where_74 ?_
        refine r_iconst (pc := 75) (v := 2) C dX6_where_75 (by decide) ?_
        refine r_iload (pc := 76) C dX6_where_76 rfl ?_
        refine r_imul (pc := 78) C dX6_where_78 ?_
        refine r_iadd (pc := 79) C dX6_where_79 ?_
        exact E _ _ _ _ _ _ dX6_where_80 (Nat.le_refl _) (Nat.le_refl _) rfl ⟨congrArg (fun z => some (Value.int z)) (by clear C E; rcases hk with q | q | q | q | q <;> simp only [vw] at q <;> simp_all [plS, offS, vw]), rfl⟩
    · skip
      refine r_iload_n (pc := 24) C dX6_where_24 rfl rfl ?_
      refine r_iload (pc := 25) C dX6_where_25 rfl ?_
      refine r_callS0 (pc := 27) (As := [.int m, .int (t (28 + i))]) (st := []) C (c_X6_swung m (t (28 + i)) (hW i hi)) xm_X6_swung xk_X6_139 dX6_where_27 (fun _ => rfl) (fun _ => rfl) rfl rfl (Nat.le_of_ble_eq_true rfl) ⟨Nat.le_of_ble_eq_true rfl, Nat.le_of_ble_eq_true rfl⟩ ⟨rfl, rfl⟩ ⟨Nat.le_of_ble_eq_true rfl, Nat.le_of_ble_eq_true rfl⟩ rfl ?_
      show g 0 0 ([.inl (0, 36, .inl t)]) 30 [some (.ref 0), some (.int (nI i)), some (.int m), some (.int (t (4 + i))), some (.int (t (28 + i))), none] [.int (swS (t (28 + i)) m)]
      refine r_goto (pc := 30) (tgt := 60) C dX6_where_30 (by decide) ?_
      refine r_istore (pc := 60) (lv' := [some (.ref 0), some (.int (nI i)), some (.int m), some (.int (t (4 + i))), some (.int (t (28 + i))), some (.int (swS (t (28 + i)) m))]) C dX6_where_60 (Nat.le_of_ble_eq_true rfl) trivial rfl ?_
      refine r_aload_n (pc := 62) C dX6_where_62 rfl rfl ?_
      refine r_bipush (pc := 63) (v := 10) C dX6_where_63 (by decide) ?_
      refine r_iload_n (pc := 65) C dX6_where_65 rfl rfl ?_
      refine r_iadd (pc := 66) C dX6_where_66 ?_
      refine r_iaload (pc := 67) (v := t (10 + i)) C (10 + i) dX6_where_67 rfl (nI_sum rfl rfl) (by first | assumption | omega) rfl ?_
      refine r_aload_n (pc := 68) C dX6_where_68 rfl rfl ?_
      refine r_bipush (pc := 69) (v := 16) C dX6_where_69 (by decide) ?_
      refine r_iload_n (pc := 71) C dX6_where_71 rfl rfl ?_
      refine r_iadd (pc := 72) C dX6_where_72 ?_
      refine r_iaload (pc := 73) (v := t (16 + i)) C (16 + i) dX6_where_73 rfl (nI_sum rfl rfl) (by first | assumption | omega) rfl ?_
      refine r_iadd (pc := 74) C dX6_where_74 ?_
      refine r_iconst (pc := 75) (v := 2) C dX6_where_75 (by decide) ?_
      refine r_iload (pc := 76) C dX6_where_76 rfl ?_
      refine r_imul (pc := 78) C dX6_where_78 ?_
      refine r_iadd (pc := 79) C dX6_where_79 ?_
      exact E _ _ _ _ _ _ dX6_where_80 (Nat.le_refl _) (Nat.le_refl _) rfl ⟨congrArg (fun z => some (Value.int z)) (by clear C E; rcases hk with q | q | q | q | q <;> simp only [vw] at q <;> simp_all [plS, offS, vw]), rfl⟩
set_option maxHeartbeats 4000000 in
set_option maxRecDepth 100000 in
theorem c_X6_isDown (t : Nat → Int32) (i : Nat) (hi : i < 6) (m : Int32) (hk : okK (vw t) i) : MetA yX6_isDown (.code yX6_isDown cX6_isDown 3 (some .boolean) :: TT) rmX6_isDown [.ref 0, .int (nI i), .int m] ([.inl (0, 36, .inl t)]) (fun vr wr => vr = some (.int (bB (downS (vw t) i m))) ∧ wr = [.inl (0, 36, .inl t)]) 0 0 := by
  refine MetA.of_i (by decide) (fun _ => Nat.le_of_ble_eq_true rfl) (Nat.le_of_ble_eq_true rfl) (fun g C E => ?_)
  replace C : Sem cX6_isDown RX6 "isDown" 3 rmX6_isDown g := C
  show g 0 0 ([.inl (0, 36, .inl t)]) 0 [some (.ref 0), some (.int (nI i)), some (.int m)] []
  refine r_aload_n (pc := 0) C dX6_isDown_0 rfl rfl ?_
  refine r_bipush (pc := 1) (v := 34) C dX6_isDown_1 (by decide) ?_
  refine r_iaload (pc := 3) (v := t 34) C 34 dX6_isDown_3 rfl (by decide) (by decide) rfl ?_
  refine r_iload_n (pc := 4) C dX6_isDown_4 rfl rfl ?_
  refine r_callS0 (pc := 5) (As := [.int (t 34), .int (nI i)]) (st := []) C (c_X6_has (t 34) (nI i)) xm_X6_has xk_X6_143 dX6_isDown_5 (fun _ => rfl) (fun _ => rfl) rfl rfl (Nat.le_of_ble_eq_true rfl) ⟨Nat.le_of_ble_eq_true rfl, Nat.le_of_ble_eq_true rfl⟩ ⟨rfl, rfl⟩ ⟨Nat.le_of_ble_eq_true rfl, Nat.le_of_ble_eq_true rfl⟩ rfl ?_
  show g 0 0 ([.inl (0, 36, .inl t)]) 8 [some (.ref 0), some (.int (nI i)), some (.int m)] [.int (bB (hasS (t 34) (nI i)))]
  refine r_if_ne (pc := 8) (tgt := 23) C dX6_isDown_8 (by decide) (fun h_8 => ?_) (fun h_8 => ?_)
  · replace h_8 := bB_t h_8
    refine r_iconst (pc := 23) (v := 1) C dX6_isDown_23 (by decide) ?_
    refine r_goto (pc := 24) (tgt := 28) C dX6_isDown_24 (by decide) ?_
    exact E _ _ _ _ _ _ dX6_isDown_28 (Nat.le_refl _) (Nat.le_refl _) rfl ⟨congrArg (fun z => some (Value.int z)) (by simp [downS, cut_has, vw, bB, h_8]), rfl⟩
  · replace h_8 := bB_f h_8
    refine r_aload_n (pc := 11) C dX6_isDown_11 rfl rfl ?_
    refine r_iload_n (pc := 12) C dX6_isDown_12 rfl rfl ?_
    refine r_iload_n (pc := 13) C dX6_isDown_13 rfl rfl ?_
    refine r_callSD (pc := 14) (As := [.ref 0, .int (nI i), .int m]) (st := []) (θ2 := [.inl (0, 36, .inl t)]) (r2 := some (.int (dipS (vw t) i m))) C [0] (c_X6_dip t i (by omega) m hk) xm_X6_dip xk_X6_147 dX6_isDown_14 rfl (by decide) rfl rfl rfl (Nat.le_of_ble_eq_true rfl) ⟨Nat.le_of_ble_eq_true rfl, Nat.le_of_ble_eq_true rfl⟩ ⟨rfl, rfl⟩ ⟨Nat.le_of_ble_eq_true rfl, Nat.le_of_ble_eq_true rfl⟩ rfl rfl rfl rfl ?_
    show g 0 0 ([.inl (0, 36, .inl t)]) 17 [some (.ref 0), some (.int (nI i)), some (.int m)] [.int (dipS (vw t) i m)]
    refine r_aload_n (pc := 17) C dX6_isDown_17 rfl rfl ?_
    refine r_iconst (pc := 18) (v := 1) C dX6_isDown_18 (by decide) ?_
    refine r_iaload (pc := 19) (v := t 1) C 1 dX6_isDown_19 rfl (by decide) (by decide) rfl ?_
    refine r_icmp_le (pc := 20) (tgt := 27) C dX6_isDown_20 (by decide) (fun h_20 => ?_) (fun h_20 => ?_)
    · skip
      refine r_iconst (pc := 27) (v := 0) C dX6_isDown_27 (by decide) ?_
      exact E _ _ _ _ _ _ dX6_isDown_28 (Nat.le_refl _) (Nat.le_refl _) rfl ⟨congrArg (fun z => some (Value.int z)) (by simp [downS, cut_has, vw, bB, h_8, h_20]), rfl⟩
    · skip
      refine r_iconst (pc := 23) (v := 1) C dX6_isDown_23 (by decide) ?_
      refine r_goto (pc := 24) (tgt := 28) C dX6_isDown_24 (by decide) ?_
      exact E _ _ _ _ _ _ dX6_isDown_28 (Nat.le_refl _) (Nat.le_refl _) rfl ⟨congrArg (fun z => some (Value.int z)) (by simp [downS, cut_has, vw, bB, h_8, h_20]), rfl⟩
set_option maxHeartbeats 4000000 in
set_option maxRecDepth 100000 in
theorem c_X6_areNear (t : Nat → Int32) (i : Nat) (hi : i < 6) (e : Nat) (he : e < 6) (m : Int32) (hk : okK (vw t) i) (hk2 : okK (vw t) e) (hW : okW (vw t)) : MetA yX6_areNear (.code yX6_areNear cX6_areNear 5 (some .boolean) :: TT) rmX6_areNear [.ref 0, .int (nI i), .int (nI e), .int m] ([.inl (0, 36, .inl t)]) (fun vr wr => vr = some (.int (bB (nrM (vw t) i e m))) ∧ wr = [.inl (0, 36, .inl t)]) 0 0 := by
  refine MetA.of_i (by decide) (fun _ => Nat.le_of_ble_eq_true rfl) (Nat.le_of_ble_eq_true rfl) (fun g C E => ?_)
  replace C : Sem cX6_areNear RX6 "areNear" 5 rmX6_areNear g := C
  show g 0 0 ([.inl (0, 36, .inl t)]) 0 [some (.ref 0), some (.int (nI i)), some (.int (nI e)), some (.int m), none] []
  refine r_aload_n (pc := 0) C dX6_areNear_0 rfl rfl ?_
  refine r_iload_n (pc := 1) C dX6_areNear_1 rfl rfl ?_
  refine r_iload_n (pc := 2) C dX6_areNear_2 rfl rfl ?_
  refine r_callSD (pc := 3) (As := [.ref 0, .int (nI i), .int m]) (st := []) (θ2 := [.inl (0, 36, .inl t)]) (r2 := some (.int (plS (vw t) i m))) C [0] (c_X6_where t i (by omega) m hk hW) xm_X6_where xk_X6_155 dX6_areNear_3 rfl (by decide) rfl rfl rfl (Nat.le_of_ble_eq_true rfl) ⟨Nat.le_of_ble_eq_true rfl, Nat.le_of_ble_eq_true rfl⟩ ⟨rfl, rfl⟩ ⟨Nat.le_of_ble_eq_true rfl, Nat.le_of_ble_eq_true rfl⟩ rfl rfl rfl rfl ?_
  show g 0 0 ([.inl (0, 36, .inl t)]) 6 [some (.ref 0), some (.int (nI i)), some (.int (nI e)), some (.int m), none] [.int (plS (vw t) i m)]
  refine r_aload_n (pc := 6) C dX6_areNear_6 rfl rfl ?_
  refine r_iload_n (pc := 7) C dX6_areNear_7 rfl rfl ?_
  refine r_iload_n (pc := 8) C dX6_areNear_8 rfl rfl ?_
  refine r_callSD (pc := 9) (As := [.ref 0, .int (nI e), .int m]) (st := [.int (plS (vw t) i m)]) (θ2 := [.inl (0, 36, .inl t)]) (r2 := some (.int (plS (vw t) e m))) C [0] (c_X6_where t e (by omega) m hk2 hW) xm_X6_where xk_X6_155 dX6_areNear_9 rfl (by decide) rfl rfl rfl (Nat.le_of_ble_eq_true rfl) ⟨Nat.le_of_ble_eq_true rfl, Nat.le_of_ble_eq_true rfl⟩ ⟨rfl, rfl⟩ ⟨Nat.le_of_ble_eq_true rfl, Nat.le_of_ble_eq_true rfl⟩ rfl rfl rfl rfl ?_
  show g 0 0 ([.inl (0, 36, .inl t)]) 12 [some (.ref 0), some (.int (nI i)), some (.int (nI e)), some (.int m), none] [.int (plS (vw t) e m), .int (plS (vw t) i m)]
  refine r_isub (pc := 12) C dX6_areNear_12 ?_
  refine r_istore (pc := 13) (lv' := [some (.ref 0), some (.int (nI i)), some (.int (nI e)), some (.int m), some (.int ((plS (vw t) i m) - (plS (vw t) e m)))]) C dX6_areNear_13 (Nat.le_of_ble_eq_true rfl) trivial rfl ?_
  refine r_iload_n (pc := 15) C dX6_areNear_15 rfl rfl ?_
  refine r_iload_n (pc := 16) C dX6_areNear_16 rfl rfl ?_
  refine r_icmp_eq (pc := 17) (tgt := 63) C dX6_areNear_17 (by decide) (fun h_17 => ?_) (fun h_17 => ?_)
  · skip
    replace h_17 := (nI_eq (by omega) (by omega)).mp h_17
    refine r_iconst (pc := 63) (v := 0) C dX6_areNear_63 (by decide) ?_
    exact E _ _ _ _ _ _ dX6_areNear_64 (Nat.le_refl _) (Nat.le_refl _) rfl ⟨congrArg (fun z => some (Value.int z)) (by simp [nrM, bB, vw, -Int32.neg_sub, h_17]), rfl⟩
  · skip
    replace h_17 : ¬ i = e := fun q => h_17 (congrArg nI q)
    refine r_aload_n (pc := 20) C dX6_areNear_20 rfl rfl ?_
    refine r_iload_n (pc := 21) C dX6_areNear_21 rfl rfl ?_
    refine r_iload_n (pc := 22) C dX6_areNear_22 rfl rfl ?_
    refine r_callSD (pc := 23) (As := [.ref 0, .int (nI i), .int m]) (st := []) (θ2 := [.inl (0, 36, .inl t)]) (r2 := some (.int (bB (downS (vw t) i m)))) C [0] (c_X6_isDown t i (by omega) m hk) xm_X6_isDown xk_X6_151 dX6_areNear_23 rfl (by decide) rfl rfl rfl (Nat.le_of_ble_eq_true rfl) ⟨Nat.le_of_ble_eq_true rfl, Nat.le_of_ble_eq_true rfl⟩ ⟨rfl, rfl⟩ ⟨Nat.le_of_ble_eq_true rfl, Nat.le_of_ble_eq_true rfl⟩ rfl rfl rfl rfl ?_
    show g 0 0 ([.inl (0, 36, .inl t)]) 26 [some (.ref 0), some (.int (nI i)), some (.int (nI e)), some (.int m), some (.int ((plS (vw t) i m) - (plS (vw t) e m)))] [.int (bB (downS (vw t) i m))]
    refine r_if_ne (pc := 26) (tgt := 63) C dX6_areNear_26 (by decide) (fun h_26 => ?_) (fun h_26 => ?_)
    · replace h_26 := bB_t h_26
      refine r_iconst (pc := 63) (v := 0) C dX6_areNear_63 (by decide) ?_
      exact E _ _ _ _ _ _ dX6_areNear_64 (Nat.le_refl _) (Nat.le_refl _) rfl ⟨congrArg (fun z => some (Value.int z)) (by simp [nrM, bB, vw, -Int32.neg_sub, h_17, h_26]), rfl⟩
    · replace h_26 := bB_f h_26
      refine r_aload_n (pc := 29) C dX6_areNear_29 rfl rfl ?_
      refine r_iload_n (pc := 30) C dX6_areNear_30 rfl rfl ?_
      refine r_iload_n (pc := 31) C dX6_areNear_31 rfl rfl ?_
      refine r_callSD (pc := 32) (As := [.ref 0, .int (nI e), .int m]) (st := []) (θ2 := [.inl (0, 36, .inl t)]) (r2 := some (.int (bB (downS (vw t) e m)))) C [0] (c_X6_isDown t e (by omega) m hk2) xm_X6_isDown xk_X6_151 dX6_areNear_32 rfl (by decide) rfl rfl rfl (Nat.le_of_ble_eq_true rfl) ⟨Nat.le_of_ble_eq_true rfl, Nat.le_of_ble_eq_true rfl⟩ ⟨rfl, rfl⟩ ⟨Nat.le_of_ble_eq_true rfl, Nat.le_of_ble_eq_true rfl⟩ rfl rfl rfl rfl ?_
      show g 0 0 ([.inl (0, 36, .inl t)]) 35 [some (.ref 0), some (.int (nI i)), some (.int (nI e)), some (.int m), some (.int ((plS (vw t) i m) - (plS (vw t) e m)))] [.int (bB (downS (vw t) e m))]
      refine r_if_ne (pc := 35) (tgt := 63) C dX6_areNear_35 (by decide) (fun h_35 => ?_) (fun h_35 => ?_)
      · replace h_35 := bB_t h_35
        refine r_iconst (pc := 63) (v := 0) C dX6_areNear_63 (by decide) ?_
        exact E _ _ _ _ _ _ dX6_areNear_64 (Nat.le_refl _) (Nat.le_refl _) rfl ⟨congrArg (fun z => some (Value.int z)) (by simp [nrM, bB, vw, -Int32.neg_sub, h_17, h_26, h_35]), rfl⟩
      · replace h_35 := bB_f h_35
        refine r_iload (pc := 38) C dX6_areNear_38 rfl ?_
        refine r_iconst (pc := 40) (v := 2) C dX6_areNear_40 (by decide) ?_
        refine r_aload_n (pc := 41) C dX6_areNear_41 rfl rfl ?_
        refine r_iconst (pc := 42) (v := 2) C dX6_areNear_42 (by decide) ?_
        refine r_iaload (pc := 43) (v := t 2) C 2 dX6_areNear_43 rfl (by decide) (by decide) rfl ?_
        refine r_imul (pc := 44) C dX6_areNear_44 ?_
        refine r_icmp_gt (pc := 45) (tgt := 63) C dX6_areNear_45 (by decide) (fun h_45 => ?_) (fun h_45 => ?_)
        · skip
          refine r_iconst (pc := 63) (v := 0) C dX6_areNear_63 (by decide) ?_
          exact E _ _ _ _ _ _ dX6_areNear_64 (Nat.le_refl _) (Nat.le_refl _) rfl ⟨congrArg (fun z => some (Value.int z)) (by simp [nrM, bB, vw, -Int32.neg_sub, h_17, h_26, h_35, h_45]), rfl⟩
        · skip
          refine r_iload (pc := 48) C dX6_areNear_48 rfl ?_
          refine r_ineg (pc := 50) C dX6_areNear_50 ?_
          refine r_iconst (pc := 51) (v := 2) C dX6_areNear_51 (by decide) ?_
          refine r_aload_n (pc := 52) C dX6_areNear_52 rfl rfl ?_
          refine r_iconst (pc := 53) (v := 2) C dX6_areNear_53 (by decide) ?_
          refine r_iaload (pc := 54) (v := t 2) C 2 dX6_areNear_54 rfl (by decide) (by decide) rfl ?_
          refine r_imul (pc := 55) C dX6_areNear_55 ?_
          refine r_icmp_gt (pc := 56) (tgt := 63) C dX6_areNear_56 (by decide) (fun h_56 => ?_) (fun h_56 => ?_)
          · skip
            refine r_iconst (pc := 63) (v := 0) C dX6_areNear_63 (by decide) ?_
            exact E _ _ _ _ _ _ dX6_areNear_64 (Nat.le_refl _) (Nat.le_refl _) rfl ⟨congrArg (fun z => some (Value.int z)) (by simp [nrM, bB, vw, -Int32.neg_sub, h_17, h_26, h_35, h_45, h_56]), rfl⟩
          · skip
            refine r_iconst (pc := 59) (v := 1) C dX6_areNear_59 (by decide) ?_
            refine r_goto (pc := 60) (tgt := 64) C dX6_areNear_60 (by decide) ?_
            exact E _ _ _ _ _ _ dX6_areNear_64 (Nat.le_refl _) (Nat.le_refl _) rfl ⟨congrArg (fun z => some (Value.int z)) (by simp [nrM, bB, vw, -Int32.neg_sub, h_17, h_26, h_35, h_45, h_56]), rfl⟩
set_option maxHeartbeats 4000000 in
set_option maxRecDepth 100000 in
theorem lp_X6_downOf (t : Nat → Int32) (m : Int32) (z : Nat) (hz : t 0 = nI z) (hz6 : z ≤ 6) (hkz : ∀ i, i < z → okK (vw t) i) {g : Nat → Nat → List xE → Nat → List (Option Value) → List Value → Prop} (C : Sem cX6_downOf RX6 "downOf" 4 rmX6_downOf g) (E : xEi g cX6_downOf .int 0 0 (fun vr wr => vr = some (.int (bitsS (fun i => downS (vw t) i m) z)) ∧ wr = [.inl (0, 36, .inl t)])) : ∀ (n : Nat) (i : Nat), i + n = z → g 0 0 ([.inl (0, 36, .inl t)]) 4 [some (.ref 0), some (.int m), some (.int (bitsS (fun i => downS (vw t) i m) i)), some (.int (nI i))] [] := by
  intro n
  induction n with
  | zero =>
    intro i hi
    refine r_iload_n (pc := 4) C dX6_downOf_4 rfl rfl ?_
    refine r_aload_n (pc := 5) C dX6_downOf_5 rfl rfl ?_
    refine r_iconst (pc := 6) (v := 0) C dX6_downOf_6 (by decide) ?_
    refine r_iaload (pc := 7) (v := t 0) C 0 dX6_downOf_7 rfl (by decide) (by decide) rfl ?_
    refine r_icmp_ge (pc := 8) (tgt := 36) C dX6_downOf_8 (by decide) (fun _ => ?_) (fun h => absurd (by rw [hz]; exact nI_le (by omega) (by omega)) h)
    refine r_iload_n (pc := 36) C dX6_downOf_36 rfl rfl ?_
    obtain rfl : i = z := by omega
    exact E _ _ _ _ _ _ dX6_downOf_37 (Nat.le_refl _) (Nat.le_refl _) rfl ⟨rfl, rfl⟩
  | succ n ih =>
    intro i hi
    refine r_iload_n (pc := 4) C dX6_downOf_4 rfl rfl ?_
    refine r_aload_n (pc := 5) C dX6_downOf_5 rfl rfl ?_
    refine r_iconst (pc := 6) (v := 0) C dX6_downOf_6 (by decide) ?_
    refine r_iaload (pc := 7) (v := t 0) C 0 dX6_downOf_7 rfl (by decide) (by decide) rfl ?_
    refine r_icmp_ge (pc := 8) (tgt := 36) C dX6_downOf_8 (by decide) (fun h => absurd h (by rw [hz]; exact nI_ge (by omega) (by omega))) (fun _ => ?_)
    refine r_iload_n (pc := 11) C dX6_downOf_11 rfl rfl ?_
    refine r_aload_n (pc := 12) C dX6_downOf_12 rfl rfl ?_
    refine r_iload_n (pc := 13) C dX6_downOf_13 rfl rfl ?_
    refine r_iload_n (pc := 14) C dX6_downOf_14 rfl rfl ?_
    refine r_callSD (pc := 15) (As := [.ref 0, .int (nI i), .int m]) (st := [.int (bitsS (fun i => downS (vw t) i m) i)]) (θ2 := [.inl (0, 36, .inl t)]) (r2 := some (.int (bB (downS (vw t) i m)))) C [0] (c_X6_isDown t i (by omega) m (hkz i (by omega))) xm_X6_isDown xk_X6_151 dX6_downOf_15 rfl (by decide) rfl rfl rfl (Nat.le_of_ble_eq_true rfl) ⟨Nat.le_of_ble_eq_true rfl, Nat.le_of_ble_eq_true rfl⟩ ⟨rfl, rfl⟩ ⟨Nat.le_of_ble_eq_true rfl, Nat.le_of_ble_eq_true rfl⟩ rfl rfl rfl rfl ?_
    show g 0 0 ([.inl (0, 36, .inl t)]) 18 [some (.ref 0), some (.int m), some (.int (bitsS (fun i => downS (vw t) i m) i)), some (.int (nI i))] [.int (bB (downS (vw t) i m)), .int (bitsS (fun i => downS (vw t) i m) i)]
    refine r_if_eq (pc := 18) (tgt := 27) C dX6_downOf_18 (by decide) (fun h_18 => ?_) (fun h_18 => ?_)
    · replace h_18 := bB_f h_18
      refine r_iconst (pc := 27) (v := 0) C dX6_downOf_27 (by decide) ?_
      refine r_ior (pc := 28) C dX6_downOf_28 ?_
      refine r_istore_n (pc := 29) (lv' := [some (.ref 0), some (.int m), some (.int ((bitsS (fun i => downS (vw t) i m) i) ||| 0)), some (.int (nI i))]) C dX6_downOf_29 rfl (Nat.le_of_ble_eq_true rfl) trivial rfl ?_
      refine r_iinc (pc := 30) (v := nI (i + 1)) (lv' := [some (.ref 0), some (.int m), some (.int ((bitsS (fun i => downS (vw t) i m) i) ||| 0)), some (.int (nI (i + 1)))]) C dX6_downOf_30 rfl (nI_1 i) trivial rfl ?_
      refine r_goto (pc := 33) (tgt := 4) C dX6_downOf_33 (by decide) ?_
      show g 0 0 ([.inl (0, 36, .inl t)]) 4 [some (.ref 0), some (.int m), some (.int ((bitsS (fun i => downS (vw t) i m) i) ||| 0)), some (.int (nI (i + 1)))] []
      rw [show ((bitsS (fun i => downS (vw t) i m) i) ||| 0 : Int32) = bitsS (fun i => downS (vw t) i m) (i + 1) from by simp [bitsS, moreS, h_18]]
      exact ih (i + 1) (by omega)
    · replace h_18 := bB_t h_18
      refine r_iconst (pc := 21) (v := 1) C dX6_downOf_21 (by decide) ?_
      refine r_iload_n (pc := 22) C dX6_downOf_22 rfl rfl ?_
      refine r_ishl (pc := 23) C dX6_downOf_23 ?_
      refine r_goto (pc := 24) (tgt := 28) C dX6_downOf_24 (by decide) ?_
      refine r_ior (pc := 28) C dX6_downOf_28 ?_
      refine r_istore_n (pc := 29) (lv' := [some (.ref 0), some (.int m), some (.int ((bitsS (fun i => downS (vw t) i m) i) ||| (1 <<< ((nI i) &&& 31)))), some (.int (nI i))]) C dX6_downOf_29 rfl (Nat.le_of_ble_eq_true rfl) trivial rfl ?_
      refine r_iinc (pc := 30) (v := nI (i + 1)) (lv' := [some (.ref 0), some (.int m), some (.int ((bitsS (fun i => downS (vw t) i m) i) ||| (1 <<< ((nI i) &&& 31)))), some (.int (nI (i + 1)))]) C dX6_downOf_30 rfl (nI_1 i) trivial rfl ?_
      refine r_goto (pc := 33) (tgt := 4) C dX6_downOf_33 (by decide) ?_
      show g 0 0 ([.inl (0, 36, .inl t)]) 4 [some (.ref 0), some (.int m), some (.int ((bitsS (fun i => downS (vw t) i m) i) ||| (1 <<< ((nI i) &&& 31)))), some (.int (nI (i + 1)))] []
      rw [show ((bitsS (fun i => downS (vw t) i m) i) ||| (1 <<< ((nI i) &&& 31)) : Int32) = bitsS (fun i => downS (vw t) i m) (i + 1) from by simp [bitsS, moreS, h_18]]
      exact ih (i + 1) (by omega)
set_option maxHeartbeats 4000000 in
set_option maxRecDepth 100000 in
theorem c_X6_downOf (t : Nat → Int32) (m : Int32) (z : Nat) (hz : t 0 = nI z) (hz6 : z ≤ 6) (hkz : ∀ i, i < z → okK (vw t) i) : MetA yX6_downOf (.code yX6_downOf cX6_downOf 4 (some .int) :: TT) rmX6_downOf [.ref 0, .int m] ([.inl (0, 36, .inl t)]) (fun vr wr => vr = some (.int (bitsS (fun i => downS (vw t) i m) z)) ∧ wr = [.inl (0, 36, .inl t)]) 0 0 := by
  refine MetA.of_i (by decide) (fun _ => Nat.le_of_ble_eq_true rfl) (Nat.le_of_ble_eq_true rfl) (fun g C E => ?_)
  replace C : Sem cX6_downOf RX6 "downOf" 4 rmX6_downOf g := C
  show g 0 0 ([.inl (0, 36, .inl t)]) 0 [some (.ref 0), some (.int m), none, none] []
  refine r_iconst (pc := 0) (v := 0) C dX6_downOf_0 (by decide) ?_
  refine r_istore_n (pc := 1) (lv' := [some (.ref 0), some (.int m), some (.int 0), none]) C dX6_downOf_1 rfl (Nat.le_of_ble_eq_true rfl) trivial rfl ?_
  refine r_iconst (pc := 2) (v := 0) C dX6_downOf_2 (by decide) ?_
  refine r_istore_n (pc := 3) (lv' := [some (.ref 0), some (.int m), some (.int 0), some (.int 0)]) C dX6_downOf_3 rfl (Nat.le_of_ble_eq_true rfl) trivial rfl ?_
  exact lp_X6_downOf t m z hz hz6 hkz C E z 0 (by omega)
set_option maxHeartbeats 4000000 in
set_option maxRecDepth 100000 in
theorem lp_X6_reachOf (t : Nat → Int32) (j : Nat) (hj : j < 6) (m : Int32) (hkj : okK (vw t) j) (hW : okW (vw t)) (z : Nat) (hz : t 0 = nI z) (hz6 : z ≤ 6) (hkz : ∀ i, i < z → okK (vw t) i) {g : Nat → Nat → List xE → Nat → List (Option Value) → List Value → Prop} (C : Sem cX6_reachOf RX6 "reachOf" 5 rmX6_reachOf g) (E : xEi g cX6_reachOf .int 0 0 (fun vr wr => vr = some (.int (reachM (vw t) z j m)) ∧ wr = [.inl (0, 36, .inl t)])) : ∀ (n : Nat) (i : Nat), i + n = z → g 0 0 ([.inl (0, 36, .inl t)]) 5 [some (.ref 0), some (.int (nI j)), some (.int m), some (.int (bitsS (fun e => nrM (vw t) j e m) i)), some (.int (nI i))] [] := by
  intro n
  induction n with
  | zero =>
    intro i hi
    refine r_iload (pc := 5) C dX6_reachOf_5 rfl ?_
    refine r_aload_n (pc := 7) C dX6_reachOf_7 rfl rfl ?_
    refine r_iconst (pc := 8) (v := 0) C dX6_reachOf_8 (by decide) ?_
    refine r_iaload (pc := 9) (v := t 0) C 0 dX6_reachOf_9 rfl (by decide) (by decide) rfl ?_
    refine r_icmp_ge (pc := 10) (tgt := 41) C dX6_reachOf_10 (by decide) (fun _ => ?_) (fun h => absurd (by rw [hz]; exact nI_le (by omega) (by omega)) h)
    refine r_iload_n (pc := 41) C dX6_reachOf_41 rfl rfl ?_
    obtain rfl : i = z := by omega
    exact E _ _ _ _ _ _ dX6_reachOf_42 (Nat.le_refl _) (Nat.le_refl _) rfl ⟨rfl, rfl⟩
  | succ n ih =>
    intro i hi
    refine r_iload (pc := 5) C dX6_reachOf_5 rfl ?_
    refine r_aload_n (pc := 7) C dX6_reachOf_7 rfl rfl ?_
    refine r_iconst (pc := 8) (v := 0) C dX6_reachOf_8 (by decide) ?_
    refine r_iaload (pc := 9) (v := t 0) C 0 dX6_reachOf_9 rfl (by decide) (by decide) rfl ?_
    refine r_icmp_ge (pc := 10) (tgt := 41) C dX6_reachOf_10 (by decide) (fun h => absurd h (by rw [hz]; exact nI_ge (by omega) (by omega))) (fun _ => ?_)
    refine r_iload_n (pc := 13) C dX6_reachOf_13 rfl rfl ?_
    refine r_aload_n (pc := 14) C dX6_reachOf_14 rfl rfl ?_
    refine r_iload_n (pc := 15) C dX6_reachOf_15 rfl rfl ?_
    refine r_iload (pc := 16) C dX6_reachOf_16 rfl ?_
    refine r_iload_n (pc := 18) C dX6_reachOf_18 rfl rfl ?_
    refine r_callSD (pc := 19) (As := [.ref 0, .int (nI j), .int (nI i), .int m]) (st := [.int (bitsS (fun e => nrM (vw t) j e m) i)]) (θ2 := [.inl (0, 36, .inl t)]) (r2 := some (.int (bB (nrM (vw t) j i m)))) C [0] (c_X6_areNear t j (by omega) i (by omega) m hkj (hkz i (by omega)) hW) xm_X6_areNear xk_X6_158 dX6_reachOf_19 rfl (by decide) rfl rfl rfl (Nat.le_of_ble_eq_true rfl) ⟨Nat.le_of_ble_eq_true rfl, Nat.le_of_ble_eq_true rfl⟩ ⟨rfl, rfl⟩ ⟨Nat.le_of_ble_eq_true rfl, Nat.le_of_ble_eq_true rfl⟩ rfl rfl rfl rfl ?_
    show g 0 0 ([.inl (0, 36, .inl t)]) 22 [some (.ref 0), some (.int (nI j)), some (.int m), some (.int (bitsS (fun e => nrM (vw t) j e m) i)), some (.int (nI i))] [.int (bB (nrM (vw t) j i m)), .int (bitsS (fun e => nrM (vw t) j e m) i)]
    refine r_if_eq (pc := 22) (tgt := 32) C dX6_reachOf_22 (by decide) (fun h_22 => ?_) (fun h_22 => ?_)
    · replace h_22 := bB_f h_22
      refine r_iconst (pc := 32) (v := 0) C dX6_reachOf_32 (by decide) ?_
      refine r_ior (pc := 33) C dX6_reachOf_33 ?_
      refine r_istore_n (pc := 34) (lv' := [some (.ref 0), some (.int (nI j)), some (.int m), some (.int ((bitsS (fun e => nrM (vw t) j e m) i) ||| 0)), some (.int (nI i))]) C dX6_reachOf_34 rfl (Nat.le_of_ble_eq_true rfl) trivial rfl ?_
      refine r_iinc (pc := 35) (v := nI (i + 1)) (lv' := [some (.ref 0), some (.int (nI j)), some (.int m), some (.int ((bitsS (fun e => nrM (vw t) j e m) i) ||| 0)), some (.int (nI (i + 1)))]) C dX6_reachOf_35 rfl (nI_1 i) trivial rfl ?_
      refine r_goto (pc := 38) (tgt := 5) C dX6_reachOf_38 (by decide) ?_
      show g 0 0 ([.inl (0, 36, .inl t)]) 5 [some (.ref 0), some (.int (nI j)), some (.int m), some (.int ((bitsS (fun e => nrM (vw t) j e m) i) ||| 0)), some (.int (nI (i + 1)))] []
      rw [show ((bitsS (fun e => nrM (vw t) j e m) i) ||| 0 : Int32) = bitsS (fun e => nrM (vw t) j e m) (i + 1) from by simp [bitsS, moreS, h_22]]
      exact ih (i + 1) (by omega)
    · replace h_22 := bB_t h_22
      refine r_iconst (pc := 25) (v := 1) C dX6_reachOf_25 (by decide) ?_
      refine r_iload (pc := 26) C dX6_reachOf_26 rfl ?_
      refine r_ishl (pc := 28) C dX6_reachOf_28 ?_
      refine r_goto (pc := 29) (tgt := 33) C dX6_reachOf_29 (by decide) ?_
      refine r_ior (pc := 33) C dX6_reachOf_33 ?_
      refine r_istore_n (pc := 34) (lv' := [some (.ref 0), some (.int (nI j)), some (.int m), some (.int ((bitsS (fun e => nrM (vw t) j e m) i) ||| (1 <<< ((nI i) &&& 31)))), some (.int (nI i))]) C dX6_reachOf_34 rfl (Nat.le_of_ble_eq_true rfl) trivial rfl ?_
      refine r_iinc (pc := 35) (v := nI (i + 1)) (lv' := [some (.ref 0), some (.int (nI j)), some (.int m), some (.int ((bitsS (fun e => nrM (vw t) j e m) i) ||| (1 <<< ((nI i) &&& 31)))), some (.int (nI (i + 1)))]) C dX6_reachOf_35 rfl (nI_1 i) trivial rfl ?_
      refine r_goto (pc := 38) (tgt := 5) C dX6_reachOf_38 (by decide) ?_
      show g 0 0 ([.inl (0, 36, .inl t)]) 5 [some (.ref 0), some (.int (nI j)), some (.int m), some (.int ((bitsS (fun e => nrM (vw t) j e m) i) ||| (1 <<< ((nI i) &&& 31)))), some (.int (nI (i + 1)))] []
      rw [show ((bitsS (fun e => nrM (vw t) j e m) i) ||| (1 <<< ((nI i) &&& 31)) : Int32) = bitsS (fun e => nrM (vw t) j e m) (i + 1) from by simp [bitsS, moreS, h_22]]
      exact ih (i + 1) (by omega)
set_option maxHeartbeats 4000000 in
set_option maxRecDepth 100000 in
theorem c_X6_reachOf (t : Nat → Int32) (j : Nat) (hj : j < 6) (m : Int32) (hkj : okK (vw t) j) (hW : okW (vw t)) (z : Nat) (hz : t 0 = nI z) (hz6 : z ≤ 6) (hkz : ∀ i, i < z → okK (vw t) i) : MetA yX6_reachOf (.code yX6_reachOf cX6_reachOf 5 (some .int) :: TT) rmX6_reachOf [.ref 0, .int (nI j), .int m] ([.inl (0, 36, .inl t)]) (fun vr wr => vr = some (.int (reachM (vw t) z j m)) ∧ wr = [.inl (0, 36, .inl t)]) 0 0 := by
  refine MetA.of_i (by decide) (fun _ => Nat.le_of_ble_eq_true rfl) (Nat.le_of_ble_eq_true rfl) (fun g C E => ?_)
  replace C : Sem cX6_reachOf RX6 "reachOf" 5 rmX6_reachOf g := C
  show g 0 0 ([.inl (0, 36, .inl t)]) 0 [some (.ref 0), some (.int (nI j)), some (.int m), none, none] []
  refine r_iconst (pc := 0) (v := 0) C dX6_reachOf_0 (by decide) ?_
  refine r_istore_n (pc := 1) (lv' := [some (.ref 0), some (.int (nI j)), some (.int m), some (.int 0), none]) C dX6_reachOf_1 rfl (Nat.le_of_ble_eq_true rfl) trivial rfl ?_
  refine r_iconst (pc := 2) (v := 0) C dX6_reachOf_2 (by decide) ?_
  refine r_istore (pc := 3) (lv' := [some (.ref 0), some (.int (nI j)), some (.int m), some (.int 0), some (.int 0)]) C dX6_reachOf_3 (Nat.le_of_ble_eq_true rfl) trivial rfl ?_
  exact lp_X6_reachOf t j hj m hkj hW z hz hz6 hkz C E z 0 (by omega)
set_option maxHeartbeats 4000000 in
set_option maxRecDepth 100000 in
theorem lpi_X6_spread (t : Nat → Int32) (d : Nat) (hd : d ≤ 60) (a : Int32) (hW : okW (vw t)) (z : Nat) (hz : t 0 = nI z) (hz6 : z ≤ 6) (hkz : ∀ i, i < z → okK (vw t) i) {g : Nat → Nat → List xE → Nat → List (Option Value) → List Value → Prop} (C : Sem cX6_spread RX6 "spread" 7 rmX6_spread g) (k : Nat) (kk : g 0 0 [.inl (0, 36, .inl t)] 7 [some (.ref 0), some (.int a), some (.int (nI d)), some (.int (setM (vw t) z a (k + 1))), some (.int (nI (k + 1))), none, none] []) : ∀ (n : Nat) (i : Nat), i + n = z → g 0 0 [.inl (0, 36, .inl t)] 19 [some (.ref 0), some (.int a), some (.int (nI d)), some (.int (setM (vw t) z a k)), some (.int (nI k)), some (.int (moreS (fun i => reachM (vw t) z i (vw t 8 0 + nI k)) (setM (vw t) z a k) i)), some (.int (nI i))] [] := by
  intro n
  induction n with
  | zero =>
    intro i hi
    have hiz : i = z := by omega
    rw [hiz]
    refine r_iload (pc := 19) C dX6_spread_19 rfl ?_
    refine r_aload_n (pc := 21) C dX6_spread_21 rfl rfl ?_
    refine r_iconst (pc := 22) (v := 0) C dX6_spread_22 (by decide) ?_
    refine r_iaload (pc := 23) (v := t 0) C 0 dX6_spread_23 rfl (by decide) (by decide) rfl ?_
    refine r_icmp_ge (pc := 24) (tgt := 64) C dX6_spread_24 (by decide) (fun _ => ?_) (fun h => absurd (by rw [hz]; exact nI_le (by omega) (by omega)) h)
    refine r_iload_n (pc := 64) C dX6_spread_64 rfl rfl ?_
    refine r_iload (pc := 65) C dX6_spread_65 rfl ?_
    refine r_ior (pc := 67) C dX6_spread_67 ?_
    refine r_istore_n (pc := 68) (lv' := [some (.ref 0), some (.int a), some (.int (nI d)), some (.int ((setM (vw t) z a k) ||| (moreS (fun i => reachM (vw t) z i (vw t 8 0 + nI k)) (setM (vw t) z a k) z))), some (.int (nI k)), some (.int (moreS (fun i => reachM (vw t) z i (vw t 8 0 + nI k)) (setM (vw t) z a k) z)), some (.int (nI z))]) C dX6_spread_68 rfl (Nat.le_of_ble_eq_true rfl) trivial rfl ?_
    refine r_iinc (pc := 69) (v := nI (k + 1)) (lv' := [some (.ref 0), some (.int a), some (.int (nI d)), some (.int ((setM (vw t) z a k) ||| (moreS (fun i => reachM (vw t) z i (vw t 8 0 + nI k)) (setM (vw t) z a k) z))), some (.int (nI (k + 1))), some (.int (moreS (fun i => reachM (vw t) z i (vw t 8 0 + nI k)) (setM (vw t) z a k) z)), some (.int (nI z))]) C dX6_spread_69 rfl (nI_1 k) trivial rfl ?_
    refine r_goto (pc := 72) (tgt := 7) C dX6_spread_72 (by decide) ?_
    show g 0 0 ([.inl (0, 36, .inl t)]) 7 [some (.ref 0), some (.int a), some (.int (nI d)), some (.int ((setM (vw t) z a k) ||| (moreS (fun i => reachM (vw t) z i (vw t 8 0 + nI k)) (setM (vw t) z a k) z))), some (.int (nI (k + 1))), some (.int (moreS (fun i => reachM (vw t) z i (vw t 8 0 + nI k)) (setM (vw t) z a k) z)), some (.int (nI z))] []
    refine r_drop (lv' := [some (.ref 0), some (.int a), some (.int (nI d)), some (.int ((setM (vw t) z a k) ||| (moreS (fun i => reachM (vw t) z i (vw t 8 0 + nI k)) (setM (vw t) z a k) z))), some (.int (nI (k + 1))), none, none]) C ⟨rfl, rfl, rfl, rfl, rfl, trivial⟩ ?_
    exact kk
  | succ n ih =>
    intro i hi
    refine r_iload (pc := 19) C dX6_spread_19 rfl ?_
    refine r_aload_n (pc := 21) C dX6_spread_21 rfl rfl ?_
    refine r_iconst (pc := 22) (v := 0) C dX6_spread_22 (by decide) ?_
    refine r_iaload (pc := 23) (v := t 0) C 0 dX6_spread_23 rfl (by decide) (by decide) rfl ?_
    refine r_icmp_ge (pc := 24) (tgt := 64) C dX6_spread_24 (by decide) (fun h => absurd h (by rw [hz]; exact nI_ge (by omega) (by omega))) (fun _ => ?_)
    refine r_iload (pc := 27) C dX6_spread_27 rfl ?_
    refine r_iload_n (pc := 29) C dX6_spread_29 rfl rfl ?_
    refine r_iload (pc := 30) C dX6_spread_30 rfl ?_
    refine r_callS0 (pc := 32) (As := [.int (setM (vw t) z a k), .int (nI i)]) (st := [.int (moreS (fun i => reachM (vw t) z i (vw t 8 0 + nI k)) (setM (vw t) z a k) i)]) C (c_X6_has (setM (vw t) z a k) (nI i)) xm_X6_has xk_X6_143 dX6_spread_32 (fun _ => rfl) (fun _ => rfl) rfl rfl (Nat.le_of_ble_eq_true rfl) ⟨Nat.le_of_ble_eq_true rfl, Nat.le_of_ble_eq_true rfl⟩ ⟨rfl, rfl⟩ ⟨Nat.le_of_ble_eq_true rfl, Nat.le_of_ble_eq_true rfl⟩ rfl ?_
    show g 0 0 ([.inl (0, 36, .inl t)]) 35 [some (.ref 0), some (.int a), some (.int (nI d)), some (.int (setM (vw t) z a k)), some (.int (nI k)), some (.int (moreS (fun i => reachM (vw t) z i (vw t 8 0 + nI k)) (setM (vw t) z a k) i)), some (.int (nI i))] [.int (bB (hasS (setM (vw t) z a k) (nI i))), .int (moreS (fun i => reachM (vw t) z i (vw t 8 0 + nI k)) (setM (vw t) z a k) i)]
    refine r_if_eq (pc := 35) (tgt := 54) C dX6_spread_35 (by decide) (fun h_35 => ?_) (fun h_35 => ?_)
    · replace h_35 := bB_f h_35
      refine r_iconst (pc := 54) (v := 0) C dX6_spread_54 (by decide) ?_
      refine r_ior (pc := 55) C dX6_spread_55 ?_
      refine r_istore (pc := 56) (lv' := [some (.ref 0), some (.int a), some (.int (nI d)), some (.int (setM (vw t) z a k)), some (.int (nI k)), some (.int ((moreS (fun i => reachM (vw t) z i (vw t 8 0 + nI k)) (setM (vw t) z a k) i) ||| 0)), some (.int (nI i))]) C dX6_spread_56 (Nat.le_of_ble_eq_true rfl) trivial rfl ?_
      refine r_iinc (pc := 58) (v := nI (i + 1)) (lv' := [some (.ref 0), some (.int a), some (.int (nI d)), some (.int (setM (vw t) z a k)), some (.int (nI k)), some (.int ((moreS (fun i => reachM (vw t) z i (vw t 8 0 + nI k)) (setM (vw t) z a k) i) ||| 0)), some (.int (nI (i + 1)))]) C dX6_spread_58 rfl (nI_1 i) trivial rfl ?_
      refine r_goto (pc := 61) (tgt := 19) C dX6_spread_61 (by decide) ?_
      show g 0 0 ([.inl (0, 36, .inl t)]) 19 [some (.ref 0), some (.int a), some (.int (nI d)), some (.int (setM (vw t) z a k)), some (.int (nI k)), some (.int ((moreS (fun i => reachM (vw t) z i (vw t 8 0 + nI k)) (setM (vw t) z a k) i) ||| 0)), some (.int (nI (i + 1)))] []
      rw [show ((moreS (fun i => reachM (vw t) z i (vw t 8 0 + nI k)) (setM (vw t) z a k) i) ||| 0 : Int32) = moreS (fun i => reachM (vw t) z i (vw t 8 0 + nI k)) (setM (vw t) z a k) (i + 1) from by simp [moreS, vw, h_35]]
      exact ih (i + 1) (by omega)
    · replace h_35 := bB_t h_35
      refine r_aload_n (pc := 38) C dX6_spread_38 rfl rfl ?_
      refine r_iload (pc := 39) C dX6_spread_39 rfl ?_
      refine r_aload_n (pc := 41) C dX6_spread_41 rfl rfl ?_
      refine r_bipush (pc := 42) (v := 35) C dX6_spread_42 (by decide) ?_
      refine r_iaload (pc := 44) (v := t 35) C 35 dX6_spread_44 rfl (by decide) (by decide) rfl ?_
      refine r_iload (pc := 45) C dX6_spread_45 rfl ?_
      refine r_iadd (pc := 47) C dX6_spread_47 ?_
      refine r_callSD (pc := 48) (As := [.ref 0, .int (nI i), .int ((t 35) + (nI k))]) (st := [.int (moreS (fun i => reachM (vw t) z i (vw t 8 0 + nI k)) (setM (vw t) z a k) i)]) (θ2 := [.inl (0, 36, .inl t)]) (r2 := some (.int (reachM (vw t) z i ((t 35) + (nI k))))) C [0] (c_X6_reachOf t i (by omega) ((t 35) + (nI k)) (hkz i (by omega)) hW z hz hz6 hkz) xm_X6_reachOf xk_X6_162 dX6_spread_48 rfl (by decide) rfl rfl rfl (Nat.le_of_ble_eq_true rfl) ⟨Nat.le_of_ble_eq_true rfl, Nat.le_of_ble_eq_true rfl⟩ ⟨rfl, rfl⟩ ⟨Nat.le_of_ble_eq_true rfl, Nat.le_of_ble_eq_true rfl⟩ rfl rfl rfl rfl ?_
      show g 0 0 ([.inl (0, 36, .inl t)]) 51 [some (.ref 0), some (.int a), some (.int (nI d)), some (.int (setM (vw t) z a k)), some (.int (nI k)), some (.int (moreS (fun i => reachM (vw t) z i (vw t 8 0 + nI k)) (setM (vw t) z a k) i)), some (.int (nI i))] [.int (reachM (vw t) z i ((t 35) + (nI k))), .int (moreS (fun i => reachM (vw t) z i (vw t 8 0 + nI k)) (setM (vw t) z a k) i)]
      refine r_goto (pc := 51) (tgt := 55) C dX6_spread_51 (by decide) ?_
      refine r_ior (pc := 55) C dX6_spread_55 ?_
      refine r_istore (pc := 56) (lv' := [some (.ref 0), some (.int a), some (.int (nI d)), some (.int (setM (vw t) z a k)), some (.int (nI k)), some (.int ((moreS (fun i => reachM (vw t) z i (vw t 8 0 + nI k)) (setM (vw t) z a k) i) ||| (reachM (vw t) z i ((t 35) + (nI k))))), some (.int (nI i))]) C dX6_spread_56 (Nat.le_of_ble_eq_true rfl) trivial rfl ?_
      refine r_iinc (pc := 58) (v := nI (i + 1)) (lv' := [some (.ref 0), some (.int a), some (.int (nI d)), some (.int (setM (vw t) z a k)), some (.int (nI k)), some (.int ((moreS (fun i => reachM (vw t) z i (vw t 8 0 + nI k)) (setM (vw t) z a k) i) ||| (reachM (vw t) z i ((t 35) + (nI k))))), some (.int (nI (i + 1)))]) C dX6_spread_58 rfl (nI_1 i) trivial rfl ?_
      refine r_goto (pc := 61) (tgt := 19) C dX6_spread_61 (by decide) ?_
      show g 0 0 ([.inl (0, 36, .inl t)]) 19 [some (.ref 0), some (.int a), some (.int (nI d)), some (.int (setM (vw t) z a k)), some (.int (nI k)), some (.int ((moreS (fun i => reachM (vw t) z i (vw t 8 0 + nI k)) (setM (vw t) z a k) i) ||| (reachM (vw t) z i ((t 35) + (nI k))))), some (.int (nI (i + 1)))] []
      rw [show ((moreS (fun i => reachM (vw t) z i (vw t 8 0 + nI k)) (setM (vw t) z a k) i) ||| (reachM (vw t) z i ((t 35) + (nI k))) : Int32) = moreS (fun i => reachM (vw t) z i (vw t 8 0 + nI k)) (setM (vw t) z a k) (i + 1) from by simp [moreS, vw, h_35]]
      exact ih (i + 1) (by omega)
set_option maxHeartbeats 4000000 in
set_option maxRecDepth 100000 in
theorem lp_X6_spread (t : Nat → Int32) (d : Nat) (hd : d ≤ 60) (a : Int32) (hW : okW (vw t)) (z : Nat) (hz : t 0 = nI z) (hz6 : z ≤ 6) (hkz : ∀ i, i < z → okK (vw t) i) {g : Nat → Nat → List xE → Nat → List (Option Value) → List Value → Prop} (C : Sem cX6_spread RX6 "spread" 7 rmX6_spread g) (E : xEi g cX6_spread .int 0 0 (fun vr wr => vr = some (.int (setM (vw t) z a d)) ∧ wr = [.inl (0, 36, .inl t)])) : ∀ (n : Nat) (k : Nat), k + n = d → g 0 0 ([.inl (0, 36, .inl t)]) 7 [some (.ref 0), some (.int a), some (.int (nI d)), some (.int (setM (vw t) z a k)), some (.int (nI k)), none, none] [] := by
  intro n
  induction n with
  | zero =>
    intro k hk
    refine r_iload (pc := 7) C dX6_spread_7 rfl ?_
    refine r_iload_n (pc := 9) C dX6_spread_9 rfl rfl ?_
    refine r_icmp_ge (pc := 10) (tgt := 75) C dX6_spread_10 (by decide) (fun _ => ?_) (fun h => absurd (nI_le (by omega) (by omega)) h)
    refine r_iload_n (pc := 75) C dX6_spread_75 rfl rfl ?_
    obtain rfl : k = d := by omega
    exact E _ _ _ _ _ _ dX6_spread_76 (Nat.le_refl _) (Nat.le_refl _) rfl ⟨rfl, rfl⟩
  | succ n ih =>
    intro k hk
    refine r_iload (pc := 7) C dX6_spread_7 rfl ?_
    refine r_iload_n (pc := 9) C dX6_spread_9 rfl rfl ?_
    refine r_icmp_ge (pc := 10) (tgt := 75) C dX6_spread_10 (by decide) (fun h => absurd h (nI_ge (by omega) (by omega))) (fun _ => ?_)
    refine r_iconst (pc := 13) (v := 0) C dX6_spread_13 (by decide) ?_
    refine r_istore (pc := 14) (lv' := [some (.ref 0), some (.int a), some (.int (nI d)), some (.int (setM (vw t) z a k)), some (.int (nI k)), some (.int 0), none]) C dX6_spread_14 (Nat.le_of_ble_eq_true rfl) trivial rfl ?_
    refine r_iconst (pc := 16) (v := 0) C dX6_spread_16 (by decide) ?_
    refine r_istore (pc := 17) (lv' := [some (.ref 0), some (.int a), some (.int (nI d)), some (.int (setM (vw t) z a k)), some (.int (nI k)), some (.int 0), some (.int 0)]) C dX6_spread_17 (Nat.le_of_ble_eq_true rfl) trivial rfl ?_
    exact lpi_X6_spread t d hd a hW z hz hz6 hkz C k (ih (k + 1) (by omega)) z 0 (by omega)
set_option maxHeartbeats 4000000 in
set_option maxRecDepth 100000 in
theorem c_X6_spread (t : Nat → Int32) (d : Nat) (hd : d ≤ 60) (a : Int32) (hW : okW (vw t)) (z : Nat) (hz : t 0 = nI z) (hz6 : z ≤ 6) (hkz : ∀ i, i < z → okK (vw t) i) : MetA yX6_spread (.code yX6_spread cX6_spread 7 (some .int) :: TT) rmX6_spread [.ref 0, .int a, .int (nI d)] ([.inl (0, 36, .inl t)]) (fun vr wr => vr = some (.int (setM (vw t) z a d)) ∧ wr = [.inl (0, 36, .inl t)]) 0 0 := by
  refine MetA.of_i (by decide) (fun _ => Nat.le_of_ble_eq_true rfl) (Nat.le_of_ble_eq_true rfl) (fun g C E => ?_)
  replace C : Sem cX6_spread RX6 "spread" 7 rmX6_spread g := C
  show g 0 0 ([.inl (0, 36, .inl t)]) 0 [some (.ref 0), some (.int a), some (.int (nI d)), none, none, none, none] []
  refine r_iconst (pc := 0) (v := 1) C dX6_spread_0 (by decide) ?_
  refine r_iload_n (pc := 1) C dX6_spread_1 rfl rfl ?_
  refine r_ishl (pc := 2) C dX6_spread_2 ?_
  refine r_istore_n (pc := 3) (lv' := [some (.ref 0), some (.int a), some (.int (nI d)), some (.int (1 <<< (a &&& 31))), none, none, none]) C dX6_spread_3 rfl (Nat.le_of_ble_eq_true rfl) trivial rfl ?_
  refine r_iconst (pc := 4) (v := 0) C dX6_spread_4 (by decide) ?_
  refine r_istore (pc := 5) (lv' := [some (.ref 0), some (.int a), some (.int (nI d)), some (.int (1 <<< (a &&& 31))), some (.int 0), none, none]) C dX6_spread_5 (Nat.le_of_ble_eq_true rfl) trivial rfl ?_
  exact lp_X6_spread t d hd a hW z hz hz6 hkz C E d 0 (by omega)
set_option maxHeartbeats 4000000 in
set_option maxRecDepth 100000 in
theorem lpi_X6_soonestOf (t : Nat → Int32) (b : Int32) (a : Int32) (hW : okW (vw t)) (z : Nat) (hz : t 0 = nI z) (hz6 : z ≤ 6) (hkz : ∀ i, i < z → okK (vw t) i) {g : Nat → Nat → List xE → Nat → List (Option Value) → List Value → Prop} (C : Sem cX6_soonestOf RX6 "soonestOf" 7 rmX6_soonestOf g) (k : Nat) (kk : g 0 0 [.inl (0, 36, .inl t)] 7 [some (.ref 0), some (.int a), some (.int b), some (.int (setM (vw t) z a (k + 1))), some (.int (nI (k + 1))), none, none] []) : ∀ (n : Nat) (i : Nat), i + n = z → g 0 0 [.inl (0, 36, .inl t)] 31 [some (.ref 0), some (.int a), some (.int b), some (.int (setM (vw t) z a k)), some (.int (nI k)), some (.int (moreS (fun i => reachM (vw t) z i (vw t 8 0 + nI k)) (setM (vw t) z a k) i)), some (.int (nI i))] [] := by
  intro n
  induction n with
  | zero =>
    intro i hi
    have hiz : i = z := by omega
    rw [hiz]
    refine r_iload (pc := 31) C dX6_soonestOf_31 rfl ?_
    refine r_aload_n (pc := 33) C dX6_soonestOf_33 rfl rfl ?_
    refine r_iconst (pc := 34) (v := 0) C dX6_soonestOf_34 (by decide) ?_
    refine r_iaload (pc := 35) (v := t 0) C 0 dX6_soonestOf_35 rfl (by decide) (by decide) rfl ?_
    refine r_icmp_ge (pc := 36) (tgt := 76) C dX6_soonestOf_36 (by decide) (fun _ => ?_) (fun h => absurd (by rw [hz]; exact nI_le (by omega) (by omega)) h)
    refine r_iload_n (pc := 76) C dX6_soonestOf_76 rfl rfl ?_
    refine r_iload (pc := 77) C dX6_soonestOf_77 rfl ?_
    refine r_ior (pc := 79) C dX6_soonestOf_79 ?_
    refine r_istore_n (pc := 80) (lv' := [some (.ref 0), some (.int a), some (.int b), some (.int ((setM (vw t) z a k) ||| (moreS (fun i => reachM (vw t) z i (vw t 8 0 + nI k)) (setM (vw t) z a k) z))), some (.int (nI k)), some (.int (moreS (fun i => reachM (vw t) z i (vw t 8 0 + nI k)) (setM (vw t) z a k) z)), some (.int (nI z))]) C dX6_soonestOf_80 rfl (Nat.le_of_ble_eq_true rfl) trivial rfl ?_
    refine r_iinc (pc := 81) (v := nI (k + 1)) (lv' := [some (.ref 0), some (.int a), some (.int b), some (.int ((setM (vw t) z a k) ||| (moreS (fun i => reachM (vw t) z i (vw t 8 0 + nI k)) (setM (vw t) z a k) z))), some (.int (nI (k + 1))), some (.int (moreS (fun i => reachM (vw t) z i (vw t 8 0 + nI k)) (setM (vw t) z a k) z)), some (.int (nI z))]) C dX6_soonestOf_81 rfl (nI_1 k) trivial rfl ?_
    refine r_goto (pc := 84) (tgt := 7) C dX6_soonestOf_84 (by decide) ?_
    show g 0 0 ([.inl (0, 36, .inl t)]) 7 [some (.ref 0), some (.int a), some (.int b), some (.int ((setM (vw t) z a k) ||| (moreS (fun i => reachM (vw t) z i (vw t 8 0 + nI k)) (setM (vw t) z a k) z))), some (.int (nI (k + 1))), some (.int (moreS (fun i => reachM (vw t) z i (vw t 8 0 + nI k)) (setM (vw t) z a k) z)), some (.int (nI z))] []
    refine r_drop (lv' := [some (.ref 0), some (.int a), some (.int b), some (.int ((setM (vw t) z a k) ||| (moreS (fun i => reachM (vw t) z i (vw t 8 0 + nI k)) (setM (vw t) z a k) z))), some (.int (nI (k + 1))), none, none]) C ⟨rfl, rfl, rfl, rfl, rfl, trivial⟩ ?_
    exact kk
  | succ n ih =>
    intro i hi
    refine r_iload (pc := 31) C dX6_soonestOf_31 rfl ?_
    refine r_aload_n (pc := 33) C dX6_soonestOf_33 rfl rfl ?_
    refine r_iconst (pc := 34) (v := 0) C dX6_soonestOf_34 (by decide) ?_
    refine r_iaload (pc := 35) (v := t 0) C 0 dX6_soonestOf_35 rfl (by decide) (by decide) rfl ?_
    refine r_icmp_ge (pc := 36) (tgt := 76) C dX6_soonestOf_36 (by decide) (fun h => absurd h (by rw [hz]; exact nI_ge (by omega) (by omega))) (fun _ => ?_)
    refine r_iload (pc := 39) C dX6_soonestOf_39 rfl ?_
    refine r_iload_n (pc := 41) C dX6_soonestOf_41 rfl rfl ?_
    refine r_iload (pc := 42) C dX6_soonestOf_42 rfl ?_
    refine r_callS0 (pc := 44) (As := [.int (setM (vw t) z a k), .int (nI i)]) (st := [.int (moreS (fun i => reachM (vw t) z i (vw t 8 0 + nI k)) (setM (vw t) z a k) i)]) C (c_X6_has (setM (vw t) z a k) (nI i)) xm_X6_has xk_X6_143 dX6_soonestOf_44 (fun _ => rfl) (fun _ => rfl) rfl rfl (Nat.le_of_ble_eq_true rfl) ⟨Nat.le_of_ble_eq_true rfl, Nat.le_of_ble_eq_true rfl⟩ ⟨rfl, rfl⟩ ⟨Nat.le_of_ble_eq_true rfl, Nat.le_of_ble_eq_true rfl⟩ rfl ?_
    show g 0 0 ([.inl (0, 36, .inl t)]) 47 [some (.ref 0), some (.int a), some (.int b), some (.int (setM (vw t) z a k)), some (.int (nI k)), some (.int (moreS (fun i => reachM (vw t) z i (vw t 8 0 + nI k)) (setM (vw t) z a k) i)), some (.int (nI i))] [.int (bB (hasS (setM (vw t) z a k) (nI i))), .int (moreS (fun i => reachM (vw t) z i (vw t 8 0 + nI k)) (setM (vw t) z a k) i)]
    refine r_if_eq (pc := 47) (tgt := 66) C dX6_soonestOf_47 (by decide) (fun h_47 => ?_) (fun h_47 => ?_)
    · replace h_47 := bB_f h_47
      refine r_iconst (pc := 66) (v := 0) C dX6_soonestOf_66 (by decide) ?_
      refine r_ior (pc := 67) C dX6_soonestOf_67 ?_
      refine r_istore (pc := 68) (lv' := [some (.ref 0), some (.int a), some (.int b), some (.int (setM (vw t) z a k)), some (.int (nI k)), some (.int ((moreS (fun i => reachM (vw t) z i (vw t 8 0 + nI k)) (setM (vw t) z a k) i) ||| 0)), some (.int (nI i))]) C dX6_soonestOf_68 (Nat.le_of_ble_eq_true rfl) trivial rfl ?_
      refine r_iinc (pc := 70) (v := nI (i + 1)) (lv' := [some (.ref 0), some (.int a), some (.int b), some (.int (setM (vw t) z a k)), some (.int (nI k)), some (.int ((moreS (fun i => reachM (vw t) z i (vw t 8 0 + nI k)) (setM (vw t) z a k) i) ||| 0)), some (.int (nI (i + 1)))]) C dX6_soonestOf_70 rfl (nI_1 i) trivial rfl ?_
      refine r_goto (pc := 73) (tgt := 31) C dX6_soonestOf_73 (by decide) ?_
      show g 0 0 ([.inl (0, 36, .inl t)]) 31 [some (.ref 0), some (.int a), some (.int b), some (.int (setM (vw t) z a k)), some (.int (nI k)), some (.int ((moreS (fun i => reachM (vw t) z i (vw t 8 0 + nI k)) (setM (vw t) z a k) i) ||| 0)), some (.int (nI (i + 1)))] []
      rw [show ((moreS (fun i => reachM (vw t) z i (vw t 8 0 + nI k)) (setM (vw t) z a k) i) ||| 0 : Int32) = moreS (fun i => reachM (vw t) z i (vw t 8 0 + nI k)) (setM (vw t) z a k) (i + 1) from by simp [moreS, vw, h_47]]
      exact ih (i + 1) (by omega)
    · replace h_47 := bB_t h_47
      refine r_aload_n (pc := 50) C dX6_soonestOf_50 rfl rfl ?_
      refine r_iload (pc := 51) C dX6_soonestOf_51 rfl ?_
      refine r_aload_n (pc := 53) C dX6_soonestOf_53 rfl rfl ?_
      refine r_bipush (pc := 54) (v := 35) C dX6_soonestOf_54 (by decide) ?_
      refine r_iaload (pc := 56) (v := t 35) C 35 dX6_soonestOf_56 rfl (by decide) (by decide) rfl ?_
      refine r_iload (pc := 57) C dX6_soonestOf_57 rfl ?_
      refine r_iadd (pc := 59) C dX6_soonestOf_59 ?_
      refine r_callSD (pc := 60) (As := [.ref 0, .int (nI i), .int ((t 35) + (nI k))]) (st := [.int (moreS (fun i => reachM (vw t) z i (vw t 8 0 + nI k)) (setM (vw t) z a k) i)]) (θ2 := [.inl (0, 36, .inl t)]) (r2 := some (.int (reachM (vw t) z i ((t 35) + (nI k))))) C [0] (c_X6_reachOf t i (by omega) ((t 35) + (nI k)) (hkz i (by omega)) hW z hz hz6 hkz) xm_X6_reachOf xk_X6_162 dX6_soonestOf_60 rfl (by decide) rfl rfl rfl (Nat.le_of_ble_eq_true rfl) ⟨Nat.le_of_ble_eq_true rfl, Nat.le_of_ble_eq_true rfl⟩ ⟨rfl, rfl⟩ ⟨Nat.le_of_ble_eq_true rfl, Nat.le_of_ble_eq_true rfl⟩ rfl rfl rfl rfl ?_
      show g 0 0 ([.inl (0, 36, .inl t)]) 63 [some (.ref 0), some (.int a), some (.int b), some (.int (setM (vw t) z a k)), some (.int (nI k)), some (.int (moreS (fun i => reachM (vw t) z i (vw t 8 0 + nI k)) (setM (vw t) z a k) i)), some (.int (nI i))] [.int (reachM (vw t) z i ((t 35) + (nI k))), .int (moreS (fun i => reachM (vw t) z i (vw t 8 0 + nI k)) (setM (vw t) z a k) i)]
      refine r_goto (pc := 63) (tgt := 67) C dX6_soonestOf_63 (by decide) ?_
      refine r_ior (pc := 67) C dX6_soonestOf_67 ?_
      refine r_istore (pc := 68) (lv' := [some (.ref 0), some (.int a), some (.int b), some (.int (setM (vw t) z a k)), some (.int (nI k)), some (.int ((moreS (fun i => reachM (vw t) z i (vw t 8 0 + nI k)) (setM (vw t) z a k) i) ||| (reachM (vw t) z i ((t 35) + (nI k))))), some (.int (nI i))]) C dX6_soonestOf_68 (Nat.le_of_ble_eq_true rfl) trivial rfl ?_
      refine r_iinc (pc := 70) (v := nI (i + 1)) (lv' := [some (.ref 0), some (.int a), some (.int b), some (.int (setM (vw t) z a k)), some (.int (nI k)), some (.int ((moreS (fun i => reachM (vw t) z i (vw t 8 0 + nI k)) (setM (vw t) z a k) i) ||| (reachM (vw t) z i ((t 35) + (nI k))))), some (.int (nI (i + 1)))]) C dX6_soonestOf_70 rfl (nI_1 i) trivial rfl ?_
      refine r_goto (pc := 73) (tgt := 31) C dX6_soonestOf_73 (by decide) ?_
      show g 0 0 ([.inl (0, 36, .inl t)]) 31 [some (.ref 0), some (.int a), some (.int b), some (.int (setM (vw t) z a k)), some (.int (nI k)), some (.int ((moreS (fun i => reachM (vw t) z i (vw t 8 0 + nI k)) (setM (vw t) z a k) i) ||| (reachM (vw t) z i ((t 35) + (nI k))))), some (.int (nI (i + 1)))] []
      rw [show ((moreS (fun i => reachM (vw t) z i (vw t 8 0 + nI k)) (setM (vw t) z a k) i) ||| (reachM (vw t) z i ((t 35) + (nI k))) : Int32) = moreS (fun i => reachM (vw t) z i (vw t 8 0 + nI k)) (setM (vw t) z a k) (i + 1) from by simp [moreS, vw, h_47]]
      exact ih (i + 1) (by omega)
set_option maxHeartbeats 4000000 in
set_option maxRecDepth 100000 in
theorem lp_X6_soonestOf (t : Nat → Int32) (b : Int32) (a : Int32) (hW : okW (vw t)) (z : Nat) (hz : t 0 = nI z) (hz6 : z ≤ 6) (hkz : ∀ i, i < z → okK (vw t) i) {g : Nat → Nat → List xE → Nat → List (Option Value) → List Value → Prop} (C : Sem cX6_soonestOf RX6 "soonestOf" 7 rmX6_soonestOf g) (E : xEi g cX6_soonestOf .int 0 0 (fun vr wr => vr = some (.int (soonM (vw t) z a b)) ∧ wr = [.inl (0, 36, .inl t)])) : ∀ (n : Nat) (k : Nat), k + n = 61 → soonFrom (fun k => hasS (setM (vw t) z a k) b) n k = soonFrom (fun k => hasS (setM (vw t) z a k) b) 61 0 → g 0 0 ([.inl (0, 36, .inl t)]) 7 [some (.ref 0), some (.int a), some (.int b), some (.int (setM (vw t) z a k)), some (.int (nI k)), none, none] [] := by
  intro n
  induction n with
  | zero =>
    intro k hk hE
    refine r_iload (pc := 7) C dX6_soonestOf_7 rfl ?_
    refine r_bipush (pc := 9) (v := 61) C dX6_soonestOf_9 (by decide) ?_
    refine r_icmp_ge (pc := 11) (tgt := 87) C dX6_soonestOf_11 (by decide) (fun _ => ?_) (fun h => absurd (nI_le (a := 61) (by omega) (by omega)) h)
    refine r_ldc (pc := 87) (v := 1000000) C dX6_soonestOf_87 tw_834 ?_
    exact E _ _ _ _ _ _ dX6_soonestOf_89 (Nat.le_refl _) (Nat.le_refl _) rfl ⟨congrArg (fun z => some (Value.int z)) (by unfold soonM; rw [← hE]; simp [soonFrom]), rfl⟩
  | succ n ih =>
    intro k hk hE
    refine r_iload (pc := 7) C dX6_soonestOf_7 rfl ?_
    refine r_bipush (pc := 9) (v := 61) C dX6_soonestOf_9 (by decide) ?_
    refine r_icmp_ge (pc := 11) (tgt := 87) C dX6_soonestOf_11 (by decide) (fun h => absurd h (nI_ge (b := 61) (by omega) (by omega))) (fun _ => ?_)
    refine r_iload_n (pc := 14) C dX6_soonestOf_14 rfl rfl ?_
    refine r_iload_n (pc := 15) C dX6_soonestOf_15 rfl rfl ?_
    refine r_callS0 (pc := 16) (As := [.int (setM (vw t) z a k), .int b]) (st := []) C (c_X6_has (setM (vw t) z a k) b) xm_X6_has xk_X6_143 dX6_soonestOf_16 (fun _ => rfl) (fun _ => rfl) rfl rfl (Nat.le_of_ble_eq_true rfl) ⟨Nat.le_of_ble_eq_true rfl, Nat.le_of_ble_eq_true rfl⟩ ⟨rfl, rfl⟩ ⟨Nat.le_of_ble_eq_true rfl, Nat.le_of_ble_eq_true rfl⟩ rfl ?_
    show g 0 0 ([.inl (0, 36, .inl t)]) 19 [some (.ref 0), some (.int a), some (.int b), some (.int (setM (vw t) z a k)), some (.int (nI k)), none, none] [.int (bB (hasS (setM (vw t) z a k) b))]
    refine r_if_eq (pc := 19) (tgt := 25) C dX6_soonestOf_19 (by decide) (fun h_19 => ?_) (fun h_19 => ?_)
    · replace h_19 := bB_f h_19
      refine r_iconst (pc := 25) (v := 0) C dX6_soonestOf_25 (by decide) ?_
      refine r_istore (pc := 26) (lv' := [some (.ref 0), some (.int a), some (.int b), some (.int (setM (vw t) z a k)), some (.int (nI k)), some (.int 0), none]) C dX6_soonestOf_26 (Nat.le_of_ble_eq_true rfl) trivial rfl ?_
      refine r_iconst (pc := 28) (v := 0) C dX6_soonestOf_28 (by decide) ?_
      refine r_istore (pc := 29) (lv' := [some (.ref 0), some (.int a), some (.int b), some (.int (setM (vw t) z a k)), some (.int (nI k)), some (.int 0), some (.int 0)]) C dX6_soonestOf_29 (Nat.le_of_ble_eq_true rfl) trivial rfl ?_
      exact lpi_X6_soonestOf t b a hW z hz hz6 hkz C k (ih (k + 1) (by omega) (by rw [← hE]; simp [soonFrom, h_19])) z 0 (by omega)
    · replace h_19 := bB_t h_19
      refine r_iload (pc := 22) C dX6_soonestOf_22 rfl ?_
      exact E _ _ _ _ _ _ dX6_soonestOf_24 (Nat.le_refl _) (Nat.le_refl _) rfl ⟨congrArg (fun z => some (Value.int z)) (by unfold soonM; rw [← hE]; simp [soonFrom, h_19]), rfl⟩
set_option maxHeartbeats 4000000 in
set_option maxRecDepth 100000 in
theorem c_X6_soonestOf (t : Nat → Int32) (b : Int32) (a : Int32) (hW : okW (vw t)) (z : Nat) (hz : t 0 = nI z) (hz6 : z ≤ 6) (hkz : ∀ i, i < z → okK (vw t) i) : MetA yX6_soonestOf (.code yX6_soonestOf cX6_soonestOf 7 (some .int) :: TT) rmX6_soonestOf [.ref 0, .int a, .int b] ([.inl (0, 36, .inl t)]) (fun vr wr => vr = some (.int (soonM (vw t) z a b)) ∧ wr = [.inl (0, 36, .inl t)]) 0 0 := by
  refine MetA.of_i (by decide) (fun _ => Nat.le_of_ble_eq_true rfl) (Nat.le_of_ble_eq_true rfl) (fun g C E => ?_)
  replace C : Sem cX6_soonestOf RX6 "soonestOf" 7 rmX6_soonestOf g := C
  show g 0 0 ([.inl (0, 36, .inl t)]) 0 [some (.ref 0), some (.int a), some (.int b), none, none, none, none] []
  refine r_iconst (pc := 0) (v := 1) C dX6_soonestOf_0 (by decide) ?_
  refine r_iload_n (pc := 1) C dX6_soonestOf_1 rfl rfl ?_
  refine r_ishl (pc := 2) C dX6_soonestOf_2 ?_
  refine r_istore_n (pc := 3) (lv' := [some (.ref 0), some (.int a), some (.int b), some (.int (1 <<< (a &&& 31))), none, none, none]) C dX6_soonestOf_3 rfl (Nat.le_of_ble_eq_true rfl) trivial rfl ?_
  refine r_iconst (pc := 4) (v := 0) C dX6_soonestOf_4 (by decide) ?_
  refine r_istore (pc := 5) (lv' := [some (.ref 0), some (.int a), some (.int b), some (.int (1 <<< (a &&& 31))), some (.int 0), none, none]) C dX6_soonestOf_5 (Nat.le_of_ble_eq_true rfl) trivial rfl ?_
  exact lp_X6_soonestOf t b a hW z hz hz6 hkz C E 61 0 (by omega) rfl
set_option maxHeartbeats 4000000 in
set_option maxRecDepth 100000 in
theorem lp_X6_copies (n0 n1 : Nat) (hn0 : n0 < 2 ^ 31) (hn1 : n1 < 2 ^ 31) (f u : Nat → Int32) (i j : Nat) (hi : i + 36 ≤ n0) (hj : j + 36 ≤ n1) {g : Nat → Nat → List xE → Nat → List (Option Value) → List Value → Prop} (C : Sem cX6_copies RX6 "copies" 5 rmX6_copies g) (E : xEv g cX6_copies 0 0 (fun vr wr => vr = none ∧ wr = [.inl (0, n0, .inl f), .inl (0, n1, .inl (va_cpy f u i j 36))])) : ∀ (n : Nat) (k : Nat), k + n = 36 → g 0 0 ([.inl (0, n0, .inl f), .inl (0, n1, .inl (va_cpy f u i j k))]) 3 [some (.ref 0), some (.int (nI i)), some (.ref 1), some (.int (nI j)), some (.int (nI k))] [] := by
  intro n
  induction n with
  | zero =>
    intro k hk
    refine r_iload (pc := 3) C dX6_copies_3 rfl ?_
    refine r_bipush (pc := 5) (v := 36) C dX6_copies_5 (by decide) ?_
    refine r_icmp_ge (pc := 7) (tgt := 28) C dX6_copies_7 (by decide) (fun _ => ?_) (fun h => absurd (nI_le (a := 36) (by omega) (by omega)) h)
    obtain rfl : k = 36 := by omega
    exact E _ _ _ _ _ dX6_copies_28 (Nat.le_refl _) (Nat.le_refl _) ⟨rfl, rfl⟩
  | succ n ih =>
    intro k hk
    refine r_iload (pc := 3) C dX6_copies_3 rfl ?_
    refine r_bipush (pc := 5) (v := 36) C dX6_copies_5 (by decide) ?_
    refine r_icmp_ge (pc := 7) (tgt := 28) C dX6_copies_7 (by decide) (fun h => absurd h (nI_ge (b := 36) (by omega) (by omega))) (fun _ => ?_)
    refine r_aload_n (pc := 10) C dX6_copies_10 rfl rfl ?_
    refine r_iload_n (pc := 11) C dX6_copies_11 rfl rfl ?_
    refine r_iload (pc := 12) C dX6_copies_12 rfl ?_
    refine r_iadd (pc := 14) C dX6_copies_14 ?_
    refine r_aload_n (pc := 15) C dX6_copies_15 rfl rfl ?_
    refine r_iload_n (pc := 16) C dX6_copies_16 rfl rfl ?_
    refine r_iload (pc := 17) C dX6_copies_17 rfl ?_
    refine r_iadd (pc := 19) C dX6_copies_19 ?_
    refine r_iaload (pc := 20) (v := f (i + k)) C (i + k) dX6_copies_20 rfl (nI_sum rfl rfl) (by first | assumption | omega) rfl ?_ (hN := hn0)
    refine r_iastore (pc := 21) (θ' := [.inl (0, n0, .inl f), .inl (0, n1, .inl (upd (va_cpy f u i j k) (j + k) (f (i + k))))]) C (j + k) dX6_copies_21 rfl (nI_sum rfl rfl) (by first | assumption | omega) rfl ?_ (hN := hn1)
    refine r_iinc (pc := 22) (v := nI (k + 1)) (lv' := [some (.ref 0), some (.int (nI i)), some (.ref 1), some (.int (nI j)), some (.int (nI (k + 1)))]) C dX6_copies_22 rfl (nI_1 k) trivial rfl ?_
    refine r_goto (pc := 25) (tgt := 3) C dX6_copies_25 (by decide) ?_
    show g 0 0 ([.inl (0, n0, .inl f), .inl (0, n1, .inl (upd (va_cpy f u i j k) (j + k) (f (i + k))))]) 3 [some (.ref 0), some (.int (nI i)), some (.ref 1), some (.int (nI j)), some (.int (nI (k + 1)))] []
    rw [show (upd (va_cpy f u i j k) (j + k) (f (i + k))) = va_cpy f u i j (k + 1) from cpy_step f u i j k]
    exact ih (k + 1) (by omega)
set_option maxHeartbeats 4000000 in
set_option maxRecDepth 100000 in
theorem c_X6_copies (n0 n1 : Nat) (hn0 : n0 < 2 ^ 31) (hn1 : n1 < 2 ^ 31) (f u : Nat → Int32) (i j : Nat) (hi : i + 36 ≤ n0) (hj : j + 36 ≤ n1) : MetA yX6_copies (.code yX6_copies cX6_copies 5 none :: TT) rmX6_copies [.ref 0, .int (nI i), .ref 1, .int (nI j)] ([.inl (0, n0, .inl f), .inl (0, n1, .inl u)]) (fun vr wr => vr = none ∧ wr = [.inl (0, n0, .inl f), .inl (0, n1, .inl (va_cpy f u i j 36))]) 0 0 := by
  refine MetA.of_v (by decide) (fun _ => Nat.le_of_ble_eq_true rfl) (Nat.le_of_ble_eq_true rfl) (fun g C E => ?_)
  replace C : Sem cX6_copies RX6 "copies" 5 rmX6_copies g := C
  show g 0 0 ([.inl (0, n0, .inl f), .inl (0, n1, .inl u)]) 0 [some (.ref 0), some (.int (nI i)), some (.ref 1), some (.int (nI j)), none] []
  refine r_iconst (pc := 0) (v := 0) C dX6_copies_0 (by decide) ?_
  refine r_istore (pc := 1) (lv' := [some (.ref 0), some (.int (nI i)), some (.ref 1), some (.int (nI j)), some (.int 0)]) C dX6_copies_1 (Nat.le_of_ble_eq_true rfl) trivial rfl ?_
  have h0 := lp_X6_copies n0 n1 hn0 hn1 f u i j hi hj C E 36 0 (by omega)
  rw [cpy_zero] at h0
  exact h0
end
