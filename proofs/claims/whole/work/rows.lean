section
-- ===== PART A: goes FIRST, ahead of the names: the tables' words, and 'selects' of the private methods out of them =====
/-- a private method of a class that the tables say can be made, by its rows of tables_1 -/
def lw_okq (q : MethodName × Nat) : Prop := (q.1.cls ≠ "java/lang/invoke/MethodHandle" ∧ q.1.cls ≠ "java/lang/invoke/VarHandle") ∧ Cond.instantiable q.1.cls q.2 ∈ tables_1 ∧ Cond.privateMethod q.1 ∈ tables_1 ∧ Cond.instanceMethod q.1 ∈ tables_1
theorem lw_p0 : lw_okq (⟨"ParadeRow$Text", "skipBlanks", "()V"⟩, 6) := ⟨⟨by decide +kernel, by decide +kernel⟩, List.mem_of_getElem? (i := 25) (by decide +kernel), List.mem_of_getElem? (i := 241) (by decide +kernel), List.mem_of_getElem? (i := 242) (by decide +kernel)⟩
theorem lw_p1 : lw_okq (⟨"ParadeRow$Text", "letterHere", "()I"⟩, 6) := ⟨⟨by decide +kernel, by decide +kernel⟩, List.mem_of_getElem? (i := 25) (by decide +kernel), List.mem_of_getElem? (i := 245) (by decide +kernel), List.mem_of_getElem? (i := 246) (by decide +kernel)⟩
theorem lw_p2 : lw_okq (⟨"ParadeRow$Text", "readClause", "(LParadeRow$People;)V"⟩, 6) := ⟨⟨by decide +kernel, by decide +kernel⟩, List.mem_of_getElem? (i := 25) (by decide +kernel), List.mem_of_getElem? (i := 249) (by decide +kernel), List.mem_of_getElem? (i := 250) (by decide +kernel)⟩
theorem lw_p3 : lw_okq (⟨"ParadeRow$Text", "readPerson", "(LParadeRow$People;)V"⟩, 6) := ⟨⟨by decide +kernel, by decide +kernel⟩, List.mem_of_getElem? (i := 25) (by decide +kernel), List.mem_of_getElem? (i := 253) (by decide +kernel), List.mem_of_getElem? (i := 254) (by decide +kernel)⟩
theorem lw_p4 : lw_okq (⟨"ParadeRow$Text", "blame", "(II)V"⟩, 6) := ⟨⟨by decide +kernel, by decide +kernel⟩, List.mem_of_getElem? (i := 25) (by decide +kernel), List.mem_of_getElem? (i := 257) (by decide +kernel), List.mem_of_getElem? (i := 258) (by decide +kernel)⟩
theorem lw_p5 : lw_okq (⟨"ParadeRow$Text", "readNumber", "(I)I"⟩, 6) := ⟨⟨by decide +kernel, by decide +kernel⟩, List.mem_of_getElem? (i := 25) (by decide +kernel), List.mem_of_getElem? (i := 261) (by decide +kernel), List.mem_of_getElem? (i := 262) (by decide +kernel)⟩
theorem lw_p6 : lw_okq (⟨"ParadeRow$Text", "readEndOfClause", "()V"⟩, 6) := ⟨⟨by decide +kernel, by decide +kernel⟩, List.mem_of_getElem? (i := 25) (by decide +kernel), List.mem_of_getElem? (i := 268) (by decide +kernel), List.mem_of_getElem? (i := 269) (by decide +kernel)⟩
theorem lw_p7 : lw_okq (⟨"ParadeRow$Text", "readAcquaintance", "(LParadeRow$People;)V"⟩, 6) := ⟨⟨by decide +kernel, by decide +kernel⟩, List.mem_of_getElem? (i := 25) (by decide +kernel), List.mem_of_getElem? (i := 277) (by decide +kernel), List.mem_of_getElem? (i := 278) (by decide +kernel)⟩
theorem lw_p8 : lw_okq (⟨"ParadeRow", "refusalOfYears", "(I)I"⟩, 9) := ⟨⟨by decide +kernel, by decide +kernel⟩, List.mem_of_getElem? (i := 17) (by decide +kernel), List.mem_of_getElem? (i := 397) (by decide +kernel), List.mem_of_getElem? (i := 398) (by decide +kernel)⟩
theorem lw_p9 : lw_okq (⟨"ParadeRow$Past", "stateAt", "(I)LParadeRow$People;"⟩, 3) := ⟨⟨by decide +kernel, by decide +kernel⟩, List.mem_of_getElem? (i := 86) (by decide +kernel), List.mem_of_getElem? (i := 405) (by decide +kernel), List.mem_of_getElem? (i := 406) (by decide +kernel)⟩
theorem lw_p10 : lw_okq (⟨"ParadeRow", "isAsked", "(III)Z"⟩, 9) := ⟨⟨by decide +kernel, by decide +kernel⟩, List.mem_of_getElem? (i := 17) (by decide +kernel), List.mem_of_getElem? (i := 445) (by decide +kernel), List.mem_of_getElem? (i := 446) (by decide +kernel)⟩
theorem lw_p11 : lw_okq (⟨"ParadeRow", "meetByDraws", "()V"⟩, 9) := ⟨⟨by decide +kernel, by decide +kernel⟩, List.mem_of_getElem? (i := 17) (by decide +kernel), List.mem_of_getElem? (i := 486) (by decide +kernel), List.mem_of_getElem? (i := 487) (by decide +kernel)⟩
theorem lw_p12 : lw_okq (⟨"ParadeRow", "imageOf", "(I)LParadeRow$Image;"⟩, 9) := ⟨⟨by decide +kernel, by decide +kernel⟩, List.mem_of_getElem? (i := 17) (by decide +kernel), List.mem_of_getElem? (i := 706) (by decide +kernel), List.mem_of_getElem? (i := 707) (by decide +kernel)⟩
theorem lw_p13 : lw_okq (⟨"ParadeRowModel", "here", "()I"⟩, 27) := ⟨⟨by decide +kernel, by decide +kernel⟩, List.mem_of_getElem? (i := 719) (by decide +kernel), List.mem_of_getElem? (i := 822) (by decide +kernel), List.mem_of_getElem? (i := 823) (by decide +kernel)⟩
theorem lw_p14 : lw_okq (⟨"ParadeRowModel", "takeClause", "()I"⟩, 27) := ⟨⟨by decide +kernel, by decide +kernel⟩, List.mem_of_getElem? (i := 719) (by decide +kernel), List.mem_of_getElem? (i := 826) (by decide +kernel), List.mem_of_getElem? (i := 827) (by decide +kernel)⟩
theorem lw_p15 : lw_okq (⟨"ParadeRowModel", "fails", "(II)I"⟩, 27) := ⟨⟨by decide +kernel, by decide +kernel⟩, List.mem_of_getElem? (i := 719) (by decide +kernel), List.mem_of_getElem? (i := 830) (by decide +kernel), List.mem_of_getElem? (i := 831) (by decide +kernel)⟩
def lw_privs_1 : List (MethodName × Nat) := [(⟨"ParadeRow$Text", "skipBlanks", "()V"⟩, 6), (⟨"ParadeRow$Text", "letterHere", "()I"⟩, 6), (⟨"ParadeRow$Text", "readClause", "(LParadeRow$People;)V"⟩, 6), (⟨"ParadeRow$Text", "readPerson", "(LParadeRow$People;)V"⟩, 6), (⟨"ParadeRow$Text", "blame", "(II)V"⟩, 6), (⟨"ParadeRow$Text", "readNumber", "(I)I"⟩, 6), (⟨"ParadeRow$Text", "readEndOfClause", "()V"⟩, 6), (⟨"ParadeRow$Text", "readAcquaintance", "(LParadeRow$People;)V"⟩, 6), (⟨"ParadeRow", "refusalOfYears", "(I)I"⟩, 9), (⟨"ParadeRow$Past", "stateAt", "(I)LParadeRow$People;"⟩, 3), (⟨"ParadeRow", "isAsked", "(III)Z"⟩, 9), (⟨"ParadeRow", "meetByDraws", "()V"⟩, 9), (⟨"ParadeRow", "imageOf", "(I)LParadeRow$Image;"⟩, 9), (⟨"ParadeRowModel", "here", "()I"⟩, 27), (⟨"ParadeRowModel", "takeClause", "()I"⟩, 27), (⟨"ParadeRowModel", "fails", "(II)I"⟩, 27)]
theorem lw_r1 : ∀ q ∈ lw_privs_1, lw_okq q := List.forall_mem_cons.mpr ⟨lw_p0, List.forall_mem_cons.mpr ⟨lw_p1, List.forall_mem_cons.mpr ⟨lw_p2, List.forall_mem_cons.mpr ⟨lw_p3, List.forall_mem_cons.mpr ⟨lw_p4, List.forall_mem_cons.mpr ⟨lw_p5, List.forall_mem_cons.mpr ⟨lw_p6, List.forall_mem_cons.mpr ⟨lw_p7, List.forall_mem_cons.mpr ⟨lw_p8, List.forall_mem_cons.mpr ⟨lw_p9, List.forall_mem_cons.mpr ⟨lw_p10, List.forall_mem_cons.mpr ⟨lw_p11, List.forall_mem_cons.mpr ⟨lw_p12, List.forall_mem_cons.mpr ⟨lw_p13, List.forall_mem_cons.mpr ⟨lw_p14, List.forall_mem_cons.mpr ⟨lw_p15, fun _ h => absurd h List.not_mem_nil⟩⟩⟩⟩⟩⟩⟩⟩⟩⟩⟩⟩⟩⟩⟩⟩
theorem lw_p16 : lw_okq (⟨"ParadeRowModel", "takePerson", "()I"⟩, 27) := ⟨⟨by decide +kernel, by decide +kernel⟩, List.mem_of_getElem? (i := 719) (by decide +kernel), List.mem_of_getElem? (i := 834) (by decide +kernel), List.mem_of_getElem? (i := 835) (by decide +kernel)⟩
theorem lw_p17 : lw_okq (⟨"ParadeRowModel", "into", "([IIII)I"⟩, 27) := ⟨⟨by decide +kernel, by decide +kernel⟩, List.mem_of_getElem? (i := 719) (by decide +kernel), List.mem_of_getElem? (i := 838) (by decide +kernel), List.mem_of_getElem? (i := 839) (by decide +kernel)⟩
theorem lw_p18 : lw_okq (⟨"ParadeRowModel", "takeNumber", "(II)I"⟩, 27) := ⟨⟨by decide +kernel, by decide +kernel⟩, List.mem_of_getElem? (i := 719) (by decide +kernel), List.mem_of_getElem? (i := 842) (by decide +kernel), List.mem_of_getElem? (i := 843) (by decide +kernel)⟩
theorem lw_p19 : lw_okq (⟨"ParadeRowModel", "takeKnows", "()I"⟩, 27) := ⟨⟨by decide +kernel, by decide +kernel⟩, List.mem_of_getElem? (i := 719) (by decide +kernel), List.mem_of_getElem? (i := 848) (by decide +kernel), List.mem_of_getElem? (i := 849) (by decide +kernel)⟩
theorem lw_p20 : lw_okq (⟨"ParadeRowModel", "takeRead", "()V"⟩, 27) := ⟨⟨by decide +kernel, by decide +kernel⟩, List.mem_of_getElem? (i := 719) (by decide +kernel), List.mem_of_getElem? (i := 852) (by decide +kernel), List.mem_of_getElem? (i := 853) (by decide +kernel)⟩
theorem lw_p21 : lw_okq (⟨"ParadeRowModel", "twoOfOne", "()I"⟩, 27) := ⟨⟨by decide +kernel, by decide +kernel⟩, List.mem_of_getElem? (i := 719) (by decide +kernel), List.mem_of_getElem? (i := 864) (by decide +kernel), List.mem_of_getElem? (i := 865) (by decide +kernel)⟩
theorem lw_p22 : lw_okq (⟨"ParadeRowModel", "nobody", "()I"⟩, 27) := ⟨⟨by decide +kernel, by decide +kernel⟩, List.mem_of_getElem? (i := 719) (by decide +kernel), List.mem_of_getElem? (i := 868) (by decide +kernel), List.mem_of_getElem? (i := 869) (by decide +kernel)⟩
theorem lw_p23 : lw_okq (⟨"ParadeRowModel", "pairs", "()I"⟩, 27) := ⟨⟨by decide +kernel, by decide +kernel⟩, List.mem_of_getElem? (i := 719) (by decide +kernel), List.mem_of_getElem? (i := 872) (by decide +kernel), List.mem_of_getElem? (i := 873) (by decide +kernel)⟩
theorem lw_p24 : lw_okq (⟨"ParadeRowModel", "knownBy", "(I)I"⟩, 27) := ⟨⟨by decide +kernel, by decide +kernel⟩, List.mem_of_getElem? (i := 719) (by decide +kernel), List.mem_of_getElem? (i := 876) (by decide +kernel), List.mem_of_getElem? (i := 877) (by decide +kernel)⟩
theorem lw_p25 : lw_okq (⟨"ParadeRowModel", "remembered", "(II)I"⟩, 27) := ⟨⟨by decide +kernel, by decide +kernel⟩, List.mem_of_getElem? (i := 719) (by decide +kernel), List.mem_of_getElem? (i := 880) (by decide +kernel), List.mem_of_getElem? (i := 881) (by decide +kernel)⟩
theorem lw_p26 : lw_okq (⟨"ParadeRowModel", "isPerson", "(I)Z"⟩, 27) := ⟨⟨by decide +kernel, by decide +kernel⟩, List.mem_of_getElem? (i := 719) (by decide +kernel), List.mem_of_getElem? (i := 891) (by decide +kernel), List.mem_of_getElem? (i := 892) (by decide +kernel)⟩
theorem lw_p27 : lw_okq (⟨"ParadeRowModel", "whoKnow", "(I)I"⟩, 27) := ⟨⟨by decide +kernel, by decide +kernel⟩, List.mem_of_getElem? (i := 719) (by decide +kernel), List.mem_of_getElem? (i := 896) (by decide +kernel), List.mem_of_getElem? (i := 897) (by decide +kernel)⟩
theorem lw_p28 : lw_okq (⟨"ParadeRowModel", "areTwo", "(II)Z"⟩, 27) := ⟨⟨by decide +kernel, by decide +kernel⟩, List.mem_of_getElem? (i := 719) (by decide +kernel), List.mem_of_getElem? (i := 904) (by decide +kernel), List.mem_of_getElem? (i := 905) (by decide +kernel)⟩
theorem lw_p29 : lw_okq (⟨"ParadeRowModel", "yearsRefused", "(I)I"⟩, 27) := ⟨⟨by decide +kernel, by decide +kernel⟩, List.mem_of_getElem? (i := 719) (by decide +kernel), List.mem_of_getElem? (i := 912) (by decide +kernel), List.mem_of_getElem? (i := 913) (by decide +kernel)⟩
theorem lw_p30 : lw_okq (⟨"ParadeRowModel", "remember", "()V"⟩, 27) := ⟨⟨by decide +kernel, by decide +kernel⟩, List.mem_of_getElem? (i := 719) (by decide +kernel), List.mem_of_getElem? (i := 918) (by decide +kernel), List.mem_of_getElem? (i := 919) (by decide +kernel)⟩
theorem lw_p31 : lw_okq (⟨"ParadeRowModel", "pass", "()V"⟩, 27) := ⟨⟨by decide +kernel, by decide +kernel⟩, List.mem_of_getElem? (i := 719) (by decide +kernel), List.mem_of_getElem? (i := 922) (by decide +kernel), List.mem_of_getElem? (i := 923) (by decide +kernel)⟩
def lw_privs_2 : List (MethodName × Nat) := [(⟨"ParadeRowModel", "takePerson", "()I"⟩, 27), (⟨"ParadeRowModel", "into", "([IIII)I"⟩, 27), (⟨"ParadeRowModel", "takeNumber", "(II)I"⟩, 27), (⟨"ParadeRowModel", "takeKnows", "()I"⟩, 27), (⟨"ParadeRowModel", "takeRead", "()V"⟩, 27), (⟨"ParadeRowModel", "twoOfOne", "()I"⟩, 27), (⟨"ParadeRowModel", "nobody", "()I"⟩, 27), (⟨"ParadeRowModel", "pairs", "()I"⟩, 27), (⟨"ParadeRowModel", "knownBy", "(I)I"⟩, 27), (⟨"ParadeRowModel", "remembered", "(II)I"⟩, 27), (⟨"ParadeRowModel", "isPerson", "(I)Z"⟩, 27), (⟨"ParadeRowModel", "whoKnow", "(I)I"⟩, 27), (⟨"ParadeRowModel", "areTwo", "(II)Z"⟩, 27), (⟨"ParadeRowModel", "yearsRefused", "(I)I"⟩, 27), (⟨"ParadeRowModel", "remember", "()V"⟩, 27), (⟨"ParadeRowModel", "pass", "()V"⟩, 27)]
theorem lw_r2 : ∀ q ∈ lw_privs_2, lw_okq q := List.forall_mem_cons.mpr ⟨lw_p16, List.forall_mem_cons.mpr ⟨lw_p17, List.forall_mem_cons.mpr ⟨lw_p18, List.forall_mem_cons.mpr ⟨lw_p19, List.forall_mem_cons.mpr ⟨lw_p20, List.forall_mem_cons.mpr ⟨lw_p21, List.forall_mem_cons.mpr ⟨lw_p22, List.forall_mem_cons.mpr ⟨lw_p23, List.forall_mem_cons.mpr ⟨lw_p24, List.forall_mem_cons.mpr ⟨lw_p25, List.forall_mem_cons.mpr ⟨lw_p26, List.forall_mem_cons.mpr ⟨lw_p27, List.forall_mem_cons.mpr ⟨lw_p28, List.forall_mem_cons.mpr ⟨lw_p29, List.forall_mem_cons.mpr ⟨lw_p30, List.forall_mem_cons.mpr ⟨lw_p31, fun _ h => absurd h List.not_mem_nil⟩⟩⟩⟩⟩⟩⟩⟩⟩⟩⟩⟩⟩⟩⟩⟩
theorem lw_p32 : lw_okq (⟨"ParadeRowModel", "rowRefused", "(III)I"⟩, 27) := ⟨⟨by decide +kernel, by decide +kernel⟩, List.mem_of_getElem? (i := 719) (by decide +kernel), List.mem_of_getElem? (i := 941) (by decide +kernel), List.mem_of_getElem? (i := 942) (by decide +kernel)⟩
theorem lw_p33 : lw_okq (⟨"ParadeRowModel", "isRow", "(I)Z"⟩, 27) := ⟨⟨by decide +kernel, by decide +kernel⟩, List.mem_of_getElem? (i := 719) (by decide +kernel), List.mem_of_getElem? (i := 945) (by decide +kernel), List.mem_of_getElem? (i := 946) (by decide +kernel)⟩
theorem lw_p34 : lw_okq (⟨"ParadeRowModel", "unknownTo", "(II)I"⟩, 27) := ⟨⟨by decide +kernel, by decide +kernel⟩, List.mem_of_getElem? (i := 719) (by decide +kernel), List.mem_of_getElem? (i := 952) (by decide +kernel), List.mem_of_getElem? (i := 953) (by decide +kernel)⟩
theorem lw_p35 : lw_okq (⟨"ParadeRowModel", "pickBy", "(II)I"⟩, 27) := ⟨⟨by decide +kernel, by decide +kernel⟩, List.mem_of_getElem? (i := 719) (by decide +kernel), List.mem_of_getElem? (i := 956) (by decide +kernel), List.mem_of_getElem? (i := 957) (by decide +kernel)⟩
theorem lw_p36 : lw_okq (⟨"ParadeRowModel", "draw", "(I)I"⟩, 27) := ⟨⟨by decide +kernel, by decide +kernel⟩, List.mem_of_getElem? (i := 719) (by decide +kernel), List.mem_of_getElem? (i := 969) (by decide +kernel), List.mem_of_getElem? (i := 970) (by decide +kernel)⟩
theorem lw_p37 : lw_okq (⟨"ParadeRowModel", "sureBy", "(III)I"⟩, 27) := ⟨⟨by decide +kernel, by decide +kernel⟩, List.mem_of_getElem? (i := 719) (by decide +kernel), List.mem_of_getElem? (i := 985) (by decide +kernel), List.mem_of_getElem? (i := 986) (by decide +kernel)⟩
theorem lw_p38 : lw_okq (⟨"ParadeRowModel", "ringOf", "(I)I"⟩, 27) := ⟨⟨by decide +kernel, by decide +kernel⟩, List.mem_of_getElem? (i := 719) (by decide +kernel), List.mem_of_getElem? (i := 1008) (by decide +kernel), List.mem_of_getElem? (i := 1009) (by decide +kernel)⟩
theorem lw_p39 : lw_okq (⟨"ParadeRowModel", "nodsOf", "(I)I"⟩, 27) := ⟨⟨by decide +kernel, by decide +kernel⟩, List.mem_of_getElem? (i := 719) (by decide +kernel), List.mem_of_getElem? (i := 1044) (by decide +kernel), List.mem_of_getElem? (i := 1045) (by decide +kernel)⟩
theorem lw_p40 : lw_okq (⟨"ParadeRowModel", "spread", "(II)I"⟩, 27) := ⟨⟨by decide +kernel, by decide +kernel⟩, List.mem_of_getElem? (i := 719) (by decide +kernel), List.mem_of_getElem? (i := 1056) (by decide +kernel), List.mem_of_getElem? (i := 1057) (by decide +kernel)⟩
def lw_privs_3 : List (MethodName × Nat) := [(⟨"ParadeRowModel", "rowRefused", "(III)I"⟩, 27), (⟨"ParadeRowModel", "isRow", "(I)Z"⟩, 27), (⟨"ParadeRowModel", "unknownTo", "(II)I"⟩, 27), (⟨"ParadeRowModel", "pickBy", "(II)I"⟩, 27), (⟨"ParadeRowModel", "draw", "(I)I"⟩, 27), (⟨"ParadeRowModel", "sureBy", "(III)I"⟩, 27), (⟨"ParadeRowModel", "ringOf", "(I)I"⟩, 27), (⟨"ParadeRowModel", "nodsOf", "(I)I"⟩, 27), (⟨"ParadeRowModel", "spread", "(II)I"⟩, 27)]
theorem lw_r3 : ∀ q ∈ lw_privs_3, lw_okq q := List.forall_mem_cons.mpr ⟨lw_p32, List.forall_mem_cons.mpr ⟨lw_p33, List.forall_mem_cons.mpr ⟨lw_p34, List.forall_mem_cons.mpr ⟨lw_p35, List.forall_mem_cons.mpr ⟨lw_p36, List.forall_mem_cons.mpr ⟨lw_p37, List.forall_mem_cons.mpr ⟨lw_p38, List.forall_mem_cons.mpr ⟨lw_p39, List.forall_mem_cons.mpr ⟨lw_p40, fun _ h => absurd h List.not_mem_nil⟩⟩⟩⟩⟩⟩⟩⟩⟩
def lw_privs : List (MethodName × Nat) := lw_privs_1 ++ (lw_privs_2 ++ (lw_privs_3))
def lw_tbl : List Cond := k2_sels lw_privs ++ tables_1
theorem lw_privs_ok : ∀ q ∈ lw_privs, lw_okq q := by
  show ∀ q ∈ lw_privs_1 ++ (lw_privs_2 ++ (lw_privs_3)), lw_okq q
  exact List.forall_mem_append.mpr ⟨lw_r1, List.forall_mem_append.mpr ⟨lw_r2, lw_r3⟩⟩
end
section
def RX0 : String := "ParadeRow$Book"
def TX0 : u_T := fun k => match k with
  | 0 => ("ParadeRow$Book", "persons", "[I", true)
  | 1 => ("ParadeRow$Book", "identities", "[I", true)
  | _ => ("ParadeRow$Book", "count", "I", false)
def tyX0 : Nat → FieldType := fun k => match k with
  | 0 => .array .int
  | 1 => .array .int
  | _ => .int
theorem nmX0 : ∀ a, a < 3 → ∀ b, b < 3 → a ≠ b → (TX0 a).2.1 ≠ (TX0 b).2.1 := by decide +kernel
theorem tyX0_ok : ∀ k, k < 3 → parseFieldDescriptor (TX0 k).2.2.1 = some (tyX0 k) := by decide +kernel
abbrev cX0_init : ByteArray := prog_2_method_1_code
def yX0_init : MethodName := ⟨RX0, "<init>", "()V"⟩
abbrev cX0_empty : ByteArray := prog_2_method_2_code
def yX0_empty : MethodName := ⟨RX0, "empty", "()V"⟩
abbrev cX0_hasRoom : ByteArray := prog_2_method_3_code
def yX0_hasRoom : MethodName := ⟨RX0, "hasRoom", "()Z"⟩
abbrev cX0_add : ByteArray := prog_2_method_4_code
def yX0_add : MethodName := ⟨RX0, "add", "(II)I"⟩
abbrev cX0_firstWrong : ByteArray := prog_2_method_5_code
def yX0_firstWrong : MethodName := ⟨RX0, "firstWrong", "(LParadeRow$People;)I"⟩
def RX1 : String := "ParadeRow$Draws"
def TX1 : u_T := fun k => match k with
  | _ => ("ParadeRow$Draws", "state", "I", false)
def tyX1 : Nat → FieldType := fun k => match k with
  | _ => .int
theorem nmX1 : ∀ a, a < 1 → ∀ b, b < 1 → a ≠ b → (TX1 a).2.1 ≠ (TX1 b).2.1 := by decide +kernel
theorem tyX1_ok : ∀ k, k < 1 → parseFieldDescriptor (TX1 k).2.2.1 = some (tyX1 k) := by decide +kernel
abbrev cX1_init : ByteArray := prog_3_method_1_code
def yX1_init : MethodName := ⟨RX1, "<init>", "()V"⟩
abbrev cX1_drawOf : ByteArray := prog_3_method_2_code
def yX1_drawOf : MethodName := ⟨RX1, "drawOf", "(I)I"⟩
def RX2 : String := "ParadeRow$Eyes"
def TX2 : u_T := fun k => match k with
  | _ => ("", "", "", false)
def tyX2 : Nat → FieldType := fun k => match k with
  | _ => .int
theorem nmX2 : ∀ a, a < 0 → ∀ b, b < 0 → a ≠ b → (TX2 a).2.1 ≠ (TX2 b).2.1 := by decide +kernel
theorem tyX2_ok : ∀ k, k < 0 → parseFieldDescriptor (TX2 k).2.2.1 = some (tyX2 k) := by decide +kernel
abbrev cX2_apart : ByteArray := prog_4_method_2_code
def yX2_apart : MethodName := ⟨RX2, "apart", "(II)I"⟩
abbrev cX2_apartOf : ByteArray := prog_4_method_3_code
def yX2_apartOf : MethodName := ⟨RX2, "apartOf", "(LParadeRow$People;II)I"⟩
abbrev cX2_pick : ByteArray := prog_4_method_4_code
def yX2_pick : MethodName := ⟨RX2, "pick", "(LParadeRow$People;II)I"⟩
abbrev cX2_sureness : ByteArray := prog_4_method_5_code
def yX2_sureness : MethodName := ⟨RX2, "sureness", "(LParadeRow$People;III)I"⟩
abbrev cX2_lead : ByteArray := prog_4_method_6_code
def yX2_lead : MethodName := ⟨RX2, "lead", "(LParadeRow$People;IIII)I"⟩
abbrev cX2_oddsOf : ByteArray := prog_4_method_7_code
def yX2_oddsOf : MethodName := ⟨RX2, "oddsOf", "(LParadeRow$People;III)I"⟩
abbrev cX2_weightIn : ByteArray := prog_4_method_8_code
def yX2_weightIn : MethodName := ⟨RX2, "weightIn", "(LParadeRow$People;III)I"⟩
abbrev cX2_spread : ByteArray := prog_4_method_9_code
def yX2_spread : MethodName := ⟨RX2, "spread", "(LParadeRow$People;II)I"⟩
def RX3 : String := "ParadeRow$Image"
def TX3 : u_T := fun k => match k with
  | 0 => ("ParadeRow$Image", "people", "LParadeRow$People;", true)
  | 1 => ("ParadeRow$Image", "state", "I", false)
  | _ => ("ParadeRow$Image", "kept", "Z", false)
def tyX3 : Nat → FieldType := fun k => match k with
  | 0 => .object "ParadeRow$People"
  | 1 => .int
  | _ => .boolean
theorem nmX3 : ∀ a, a < 3 → ∀ b, b < 3 → a ≠ b → (TX3 a).2.1 ≠ (TX3 b).2.1 := by decide +kernel
theorem tyX3_ok : ∀ k, k < 3 → parseFieldDescriptor (TX3 k).2.2.1 = some (tyX3 k) := by decide +kernel
abbrev cX3_init : ByteArray := prog_5_method_1_code
def yX3_init : MethodName := ⟨RX3, "<init>", "()V"⟩
abbrev cX3_take : ByteArray := prog_5_method_2_code
def yX3_take : MethodName := ⟨RX3, "take", "(LParadeRow$People;I)V"⟩
abbrev cX3_drop : ByteArray := prog_5_method_3_code
def yX3_drop : MethodName := ⟨RX3, "drop", "()V"⟩
def RX4 : String := "ParadeRow$Past"
def TX4 : u_T := fun k => match k with
  | 0 => ("ParadeRow$Past", "states", "[LParadeRow$People;", true)
  | 1 => ("ParadeRow$Past", "next", "I", false)
  | _ => ("ParadeRow$Past", "count", "I", false)
def tyX4 : Nat → FieldType := fun k => match k with
  | 0 => .array (.object "ParadeRow$People")
  | 1 => .int
  | _ => .int
theorem nmX4 : ∀ a, a < 3 → ∀ b, b < 3 → a ≠ b → (TX4 a).2.1 ≠ (TX4 b).2.1 := by decide +kernel
theorem tyX4_ok : ∀ k, k < 3 → parseFieldDescriptor (TX4 k).2.2.1 = some (tyX4 k) := by decide +kernel
abbrev cX4_init : ByteArray := prog_6_method_1_code
def yX4_init : MethodName := ⟨RX4, "<init>", "()V"⟩
abbrev cX4_empty : ByteArray := prog_6_method_2_code
def yX4_empty : MethodName := ⟨RX4, "empty", "()V"⟩
abbrev cX4_push : ByteArray := prog_6_method_3_code
def yX4_push : MethodName := ⟨RX4, "push", "(LParadeRow$People;)V"⟩
abbrev cX4_popInto : ByteArray := prog_6_method_4_code
def yX4_popInto : MethodName := ⟨RX4, "popInto", "(LParadeRow$People;)Z"⟩
abbrev cX4_stateAt : ByteArray := prog_6_method_5_code
def yX4_stateAt : MethodName := ⟨RX4, "stateAt", "(I)LParadeRow$People;"⟩
def RX5 : String := "ParadeRow$People"
def TX5 : u_T := fun k => match k with
  | 0 => ("ParadeRow$People", "marks", "[I", true)
  | 1 => ("ParadeRow$People", "changes", "[I", true)
  | 2 => ("ParadeRow$People", "identities", "[I", true)
  | 3 => ("ParadeRow$People", "memories", "[I", true)
  | 4 => ("ParadeRow$People", "count", "I", false)
  | _ => ("ParadeRow$People", "years", "I", false)
def tyX5 : Nat → FieldType := fun k => match k with
  | 0 => .array .int
  | 1 => .array .int
  | 2 => .array .int
  | 3 => .array .int
  | 4 => .int
  | _ => .int
theorem nmX5 : ∀ a, a < 6 → ∀ b, b < 6 → a ≠ b → (TX5 a).2.1 ≠ (TX5 b).2.1 := by decide +kernel
theorem tyX5_ok : ∀ k, k < 6 → parseFieldDescriptor (TX5 k).2.2.1 = some (tyX5 k) := by decide +kernel
abbrev cX5_init : ByteArray := prog_7_method_1_code
def yX5_init : MethodName := ⟨RX5, "<init>", "()V"⟩
abbrev cX5_empty : ByteArray := prog_7_method_2_code
def yX5_empty : MethodName := ⟨RX5, "empty", "()V"⟩
abbrev cX5_become : ByteArray := prog_7_method_3_code
def yX5_become : MethodName := ⟨RX5, "become", "(LParadeRow$People;)V"⟩
abbrev cX5_add : ByteArray := prog_7_method_4_code
def yX5_add : MethodName := ⟨RX5, "add", "(II)V"⟩
abbrev cX5_has : ByteArray := prog_7_method_5_code
def yX5_has : MethodName := ⟨RX5, "has", "(I)Z"⟩
abbrev cX5_isPair : ByteArray := prog_7_method_6_code
def yX5_isPair : MethodName := ⟨RX5, "isPair", "(II)Z"⟩
abbrev cX5_everybody : ByteArray := prog_7_method_7_code
def yX5_everybody : MethodName := ⟨RX5, "everybody", "()I"⟩
abbrev cX5_holdsAll : ByteArray := prog_7_method_8_code
def yX5_holdsAll : MethodName := ⟨RX5, "holdsAll", "(I)Z"⟩
abbrev cX5_marksOf : ByteArray := prog_7_method_9_code
def yX5_marksOf : MethodName := ⟨RX5, "marksOf", "(I)I"⟩
abbrev cX5_changesOf : ByteArray := prog_7_method_10_code
def yX5_changesOf : MethodName := ⟨RX5, "changesOf", "(I)I"⟩
abbrev cX5_identityOf : ByteArray := prog_7_method_11_code
def yX5_identityOf : MethodName := ⟨RX5, "identityOf", "(I)I"⟩
abbrev cX5_memoryOf : ByteArray := prog_7_method_12_code
def yX5_memoryOf : MethodName := ⟨RX5, "memoryOf", "(II)I"⟩
abbrev cX5_knows : ByteArray := prog_7_method_13_code
def yX5_knows : MethodName := ⟨RX5, "knows", "(II)Z"⟩
abbrev cX5_flip : ByteArray := prog_7_method_14_code
def yX5_flip : MethodName := ⟨RX5, "flip", "(II)V"⟩
abbrev cX5_learn : ByteArray := prog_7_method_15_code
def yX5_learn : MethodName := ⟨RX5, "learn", "(II)V"⟩
abbrev cX5_unlearn : ByteArray := prog_7_method_16_code
def yX5_unlearn : MethodName := ⟨RX5, "unlearn", "(II)V"⟩
abbrev cX5_identify : ByteArray := prog_7_method_17_code
def yX5_identify : MethodName := ⟨RX5, "identify", "(II)V"⟩
abbrev cX5_passYears : ByteArray := prog_7_method_18_code
def yX5_passYears : MethodName := ⟨RX5, "passYears", "(I)V"⟩
abbrev cX5_knownBy : ByteArray := prog_7_method_19_code
def yX5_knownBy : MethodName := ⟨RX5, "knownBy", "(I)I"⟩
abbrev cX5_knowersOf : ByteArray := prog_7_method_20_code
def yX5_knowersOf : MethodName := ⟨RX5, "knowersOf", "(I)I"⟩
abbrev cX5_countAcquaintances : ByteArray := prog_7_method_21_code
def yX5_countAcquaintances : MethodName := ⟨RX5, "countAcquaintances", "()I"⟩
abbrev cX5_whoAre : ByteArray := prog_7_method_22_code
def yX5_whoAre : MethodName := ⟨RX5, "whoAre", "(I)I"⟩
abbrev cX5_twoOfOne : ByteArray := prog_7_method_23_code
def yX5_twoOfOne : MethodName := ⟨RX5, "twoOfOne", "()I"⟩
abbrev cX5_nobodies : ByteArray := prog_7_method_24_code
def yX5_nobodies : MethodName := ⟨RX5, "nobodies", "()I"⟩
abbrev cX5_stepsBackTo : ByteArray := prog_7_method_25_code
def yX5_stepsBackTo : MethodName := ⟨RX5, "stepsBackTo", "(I)I"⟩
abbrev cX5_countInRings : ByteArray := prog_7_method_26_code
def yX5_countInRings : MethodName := ⟨RX5, "countInRings", "()I"⟩
abbrev cX5_countAstray : ByteArray := prog_7_method_27_code
def yX5_countAstray : MethodName := ⟨RX5, "countAstray", "()I"⟩
abbrev cX5_countAstrayAndKnown : ByteArray := prog_7_method_28_code
def yX5_countAstrayAndKnown : MethodName := ⟨RX5, "countAstrayAndKnown", "()I"⟩
abbrev cX5_isFaded : ByteArray := prog_7_method_29_code
def yX5_isFaded : MethodName := ⟨RX5, "isFaded", "(II)Z"⟩
abbrev cX5_fadedPair : ByteArray := prog_7_method_30_code
def yX5_fadedPair : MethodName := ⟨RX5, "fadedPair", "(I)I"⟩
abbrev cX5_firstTwins : ByteArray := prog_7_method_31_code
def yX5_firstTwins : MethodName := ⟨RX5, "firstTwins", "()I"⟩
def RX6 : String := "ParadeRow$Rows"
def TX6 : u_T := fun k => match k with
  | _ => ("", "", "", false)
def tyX6 : Nat → FieldType := fun k => match k with
  | _ => .int
theorem nmX6 : ∀ a, a < 0 → ∀ b, b < 0 → a ≠ b → (TX6 a).2.1 ≠ (TX6 b).2.1 := by decide +kernel
theorem tyX6_ok : ∀ k, k < 0 → parseFieldDescriptor (TX6 k).2.2.1 = some (tyX6 k) := by decide +kernel
abbrev cX6_surest : ByteArray := prog_8_method_2_code
def yX6_surest : MethodName := ⟨RX6, "surest", "(LParadeRow$People;III)I"⟩
abbrev cX6_surestWitness : ByteArray := prog_8_method_3_code
def yX6_surestWitness : MethodName := ⟨RX6, "surestWitness", "(LParadeRow$People;II)I"⟩
abbrev cX6_fewestMarks : ByteArray := prog_8_method_4_code
def yX6_fewestMarks : MethodName := ⟨RX6, "fewestMarks", "(LParadeRow$People;IIII)I"⟩
abbrev cX6_countPicking : ByteArray := prog_8_method_5_code
def yX6_countPicking : MethodName := ⟨RX6, "countPicking", "(LParadeRow$People;IIII)I"⟩
abbrev cX6_leastPicking : ByteArray := prog_8_method_6_code
def yX6_leastPicking : MethodName := ⟨RX6, "leastPicking", "(LParadeRow$People;IIII)I"⟩
abbrev cX6_widest : ByteArray := prog_8_method_7_code
def yX6_widest : MethodName := ⟨RX6, "widest", "(LParadeRow$People;II)I"⟩
abbrev cX6_isRowOf : ByteArray := prog_8_method_8_code
def yX6_isRowOf : MethodName := ⟨RX6, "isRowOf", "(III)Z"⟩
abbrev cX6_isRowWith : ByteArray := prog_8_method_9_code
def yX6_isRowWith : MethodName := ⟨RX6, "isRowWith", "(IIII)Z"⟩
def RX7 : String := "ParadeRow$Sightings"
def TX7 : u_T := fun k => match k with
  | 0 => ("ParadeRow$Sightings", "witnesses", "[I", true)
  | 1 => ("ParadeRow$Sightings", "sought", "[I", true)
  | 2 => ("ParadeRow$Sightings", "rows", "[I", true)
  | 3 => ("ParadeRow$Sightings", "picked", "[I", true)
  | _ => ("ParadeRow$Sightings", "count", "I", false)
def tyX7 : Nat → FieldType := fun k => match k with
  | 0 => .array .int
  | 1 => .array .int
  | 2 => .array .int
  | 3 => .array .int
  | _ => .int
theorem nmX7 : ∀ a, a < 5 → ∀ b, b < 5 → a ≠ b → (TX7 a).2.1 ≠ (TX7 b).2.1 := by decide +kernel
theorem tyX7_ok : ∀ k, k < 5 → parseFieldDescriptor (TX7 k).2.2.1 = some (tyX7 k) := by decide +kernel
abbrev cX7_init : ByteArray := prog_9_method_1_code
def yX7_init : MethodName := ⟨RX7, "<init>", "()V"⟩
abbrev cX7_empty : ByteArray := prog_9_method_2_code
def yX7_empty : MethodName := ⟨RX7, "empty", "()V"⟩
abbrev cX7_hasRoom : ByteArray := prog_9_method_3_code
def yX7_hasRoom : MethodName := ⟨RX7, "hasRoom", "()Z"⟩
abbrev cX7_add : ByteArray := prog_9_method_4_code
def yX7_add : MethodName := ⟨RX7, "add", "(IIII)I"⟩
abbrev cX7_countOtherwise : ByteArray := prog_9_method_5_code
def yX7_countOtherwise : MethodName := ⟨RX7, "countOtherwise", "(LParadeRow$People;I)I"⟩
abbrev cX7_pickNow : ByteArray := prog_9_method_6_code
def yX7_pickNow : MethodName := ⟨RX7, "pickNow", "(LParadeRow$People;III)I"⟩
def RX8 : String := "ParadeRow$Text"
def TX8 : u_T := fun k => match k with
  | 0 => ("ParadeRow$Text", "letters", "[I", true)
  | 1 => ("ParadeRow$Text", "length", "I", false)
  | 2 => ("ParadeRow$Text", "faultPlace", "I", false)
  | 3 => ("ParadeRow$Text", "faultNumber", "I", false)
  | 4 => ("ParadeRow$Text", "at", "I", false)
  | _ => ("ParadeRow$Text", "numberPlace", "I", false)
def tyX8 : Nat → FieldType := fun k => match k with
  | 0 => .array .int
  | 1 => .int
  | 2 => .int
  | 3 => .int
  | 4 => .int
  | _ => .int
theorem nmX8 : ∀ a, a < 6 → ∀ b, b < 6 → a ≠ b → (TX8 a).2.1 ≠ (TX8 b).2.1 := by decide +kernel
theorem tyX8_ok : ∀ k, k < 6 → parseFieldDescriptor (TX8 k).2.2.1 = some (tyX8 k) := by decide +kernel
abbrev cX8_init : ByteArray := prog_10_method_1_code
def yX8_init : MethodName := ⟨RX8, "<init>", "()V"⟩
abbrev cX8_hasRoom : ByteArray := prog_10_method_2_code
def yX8_hasRoom : MethodName := ⟨RX8, "hasRoom", "()Z"⟩
abbrev cX8_append : ByteArray := prog_10_method_3_code
def yX8_append : MethodName := ⟨RX8, "append", "(I)I"⟩
abbrev cX8_empty : ByteArray := prog_10_method_4_code
def yX8_empty : MethodName := ⟨RX8, "empty", "()V"⟩
abbrev cX8_tellInto : ByteArray := prog_10_method_5_code
def yX8_tellInto : MethodName := ⟨RX8, "tellInto", "(LParadeRow$People;)I"⟩
abbrev cX8_readClause : ByteArray := prog_10_method_6_code
def yX8_readClause : MethodName := ⟨RX8, "readClause", "(LParadeRow$People;)V"⟩
abbrev cX8_readPerson : ByteArray := prog_10_method_7_code
def yX8_readPerson : MethodName := ⟨RX8, "readPerson", "(LParadeRow$People;)V"⟩
abbrev cX8_readAcquaintance : ByteArray := prog_10_method_8_code
def yX8_readAcquaintance : MethodName := ⟨RX8, "readAcquaintance", "(LParadeRow$People;)V"⟩
abbrev cX8_readNumber : ByteArray := prog_10_method_9_code
def yX8_readNumber : MethodName := ⟨RX8, "readNumber", "(I)I"⟩
abbrev cX8_readEndOfClause : ByteArray := prog_10_method_10_code
def yX8_readEndOfClause : MethodName := ⟨RX8, "readEndOfClause", "()V"⟩
abbrev cX8_skipBlanks : ByteArray := prog_10_method_11_code
def yX8_skipBlanks : MethodName := ⟨RX8, "skipBlanks", "()V"⟩
abbrev cX8_letterHere : ByteArray := prog_10_method_12_code
def yX8_letterHere : MethodName := ⟨RX8, "letterHere", "()I"⟩
abbrev cX8_isFigure : ByteArray := prog_10_method_13_code
def yX8_isFigure : MethodName := ⟨RX8, "isFigure", "(I)Z"⟩
abbrev cX8_blame : ByteArray := prog_10_method_14_code
def yX8_blame : MethodName := ⟨RX8, "blame", "(II)V"⟩
def RX9 : String := "ParadeRow"
def TX9 : u_T := fun k => match k with
  | 0 => ("ParadeRow", "text", "LParadeRow$Text;", true)
  | 1 => ("ParadeRow", "now", "LParadeRow$People;", true)
  | 2 => ("ParadeRow", "scratch", "LParadeRow$People;", true)
  | 3 => ("ParadeRow", "past", "LParadeRow$Past;", true)
  | 4 => ("ParadeRow", "sightings", "LParadeRow$Sightings;", true)
  | 5 => ("ParadeRow", "book", "LParadeRow$Book;", true)
  | 6 => ("ParadeRow", "draws", "LParadeRow$Draws;", true)
  | 7 => ("ParadeRow", "firstImage", "LParadeRow$Image;", true)
  | _ => ("ParadeRow", "secondImage", "LParadeRow$Image;", true)
def tyX9 : Nat → FieldType := fun k => match k with
  | 0 => .object "ParadeRow$Text"
  | 1 => .object "ParadeRow$People"
  | 2 => .object "ParadeRow$People"
  | 3 => .object "ParadeRow$Past"
  | 4 => .object "ParadeRow$Sightings"
  | 5 => .object "ParadeRow$Book"
  | 6 => .object "ParadeRow$Draws"
  | 7 => .object "ParadeRow$Image"
  | _ => .object "ParadeRow$Image"
theorem nmX9 : ∀ a, a < 9 → ∀ b, b < 9 → a ≠ b → (TX9 a).2.1 ≠ (TX9 b).2.1 := by decide +kernel
theorem tyX9_ok : ∀ k, k < 9 → parseFieldDescriptor (TX9 k).2.2.1 = some (tyX9 k) := by decide +kernel
abbrev cX9_init : ByteArray := prog_1_method_1_code
def yX9_init : MethodName := ⟨RX9, "<init>", "()V"⟩
abbrev cX9_feed : ByteArray := prog_1_method_2_code
def yX9_feed : MethodName := ⟨RX9, "feed", "(I)I"⟩
abbrev cX9_place : ByteArray := prog_1_method_3_code
def yX9_place : MethodName := ⟨RX9, "place", "()I"⟩
abbrev cX9_fault : ByteArray := prog_1_method_4_code
def yX9_fault : MethodName := ⟨RX9, "fault", "()I"⟩
abbrev cX9_told : ByteArray := prog_1_method_5_code
def yX9_told : MethodName := ⟨RX9, "told", "(I)I"⟩
abbrev cX9_person : ByteArray := prog_1_method_6_code
def yX9_person : MethodName := ⟨RX9, "person", "(II)I"⟩
abbrev cX9_remembers : ByteArray := prog_1_method_7_code
def yX9_remembers : MethodName := ⟨RX9, "remembers", "(II)I"⟩
abbrev cX9_year : ByteArray := prog_1_method_8_code
def yX9_year : MethodName := ⟨RX9, "year", "(I)I"⟩
abbrev cX9_meet : ByteArray := prog_1_method_9_code
def yX9_meet : MethodName := ⟨RX9, "meet", "(II)I"⟩
abbrev cX9_forget : ByteArray := prog_1_method_10_code
def yX9_forget : MethodName := ⟨RX9, "forget", "(II)I"⟩
abbrev cX9_parade : ByteArray := prog_1_method_11_code
def yX9_parade : MethodName := ⟨RX9, "parade", "(III)I"⟩
abbrev cX9_mark : ByteArray := prog_1_method_12_code
def yX9_mark : MethodName := ⟨RX9, "mark", "(II)I"⟩
abbrev cX9_drift : ByteArray := prog_1_method_13_code
def yX9_drift : MethodName := ⟨RX9, "drift", "(I)I"⟩
abbrev cX9_undo : ByteArray := prog_1_method_14_code
def yX9_undo : MethodName := ⟨RX9, "undo", "()I"⟩
abbrev cX9_sure : ByteArray := prog_1_method_15_code
def yX9_sure : MethodName := ⟨RX9, "sure", "(III)I"⟩
abbrev cX9_bestRow : ByteArray := prog_1_method_16_code
def yX9_bestRow : MethodName := ⟨RX9, "bestRow", "(III)I"⟩
abbrev cX9_odds : ByteArray := prog_1_method_17_code
def yX9_odds : MethodName := ⟨RX9, "odds", "(IIII)I"⟩
abbrev cX9_ask : ByteArray := prog_1_method_18_code
def yX9_ask : MethodName := ⟨RX9, "ask", "(II)I"⟩
abbrev cX9_ring : ByteArray := prog_1_method_19_code
def yX9_ring : MethodName := ⟨RX9, "ring", "(I)I"⟩
abbrev cX9_rings : ByteArray := prog_1_method_20_code
def yX9_rings : MethodName := ⟨RX9, "rings", "(I)I"⟩
abbrev cX9_mask : ByteArray := prog_1_method_21_code
def yX9_mask : MethodName := ⟨RX9, "mask", "(IIII)I"⟩
abbrev cX9_spoil : ByteArray := prog_1_method_22_code
def yX9_spoil : MethodName := ⟨RX9, "spoil", "(IIII)I"⟩
abbrev cX9_impostor : ByteArray := prog_1_method_23_code
def yX9_impostor : MethodName := ⟨RX9, "impostor", "(IIIII)I"⟩
abbrev cX9_lost : ByteArray := prog_1_method_24_code
def yX9_lost : MethodName := ⟨RX9, "lost", "(I)I"⟩
abbrev cX9_alike : ByteArray := prog_1_method_25_code
def yX9_alike : MethodName := ⟨RX9, "alike", "(I)I"⟩
abbrev cX9_see : ByteArray := prog_1_method_26_code
def yX9_see : MethodName := ⟨RX9, "see", "(IIII)I"⟩
abbrev cX9_honest : ByteArray := prog_1_method_27_code
def yX9_honest : MethodName := ⟨RX9, "honest", "()I"⟩
abbrev cX9_nods : ByteArray := prog_1_method_28_code
def yX9_nods : MethodName := ⟨RX9, "nods", "(I)I"⟩
abbrev cX9_showNext : ByteArray := prog_1_method_29_code
def yX9_showNext : MethodName := ⟨RX9, "showNext", "(II)I"⟩
abbrev cX9_write : ByteArray := prog_1_method_30_code
def yX9_write : MethodName := ⟨RX9, "write", "(II)I"⟩
abbrev cX9_tear : ByteArray := prog_1_method_31_code
def yX9_tear : MethodName := ⟨RX9, "tear", "()I"⟩
abbrev cX9_judge : ByteArray := prog_1_method_32_code
def yX9_judge : MethodName := ⟨RX9, "judge", "()I"⟩
abbrev cX9_seed : ByteArray := prog_1_method_33_code
def yX9_seed : MethodName := ⟨RX9, "seed", "(I)I"⟩
abbrev cX9_keep : ByteArray := prog_1_method_34_code
def yX9_keep : MethodName := ⟨RX9, "keep", "(I)I"⟩
abbrev cX9_goBack : ByteArray := prog_1_method_35_code
def yX9_goBack : MethodName := ⟨RX9, "goBack", "(I)I"⟩
abbrev cX9_refusal : ByteArray := prog_1_method_36_code
def yX9_refusal : MethodName := ⟨RX9, "refusal", "(ZZZZ)I"⟩
abbrev cX9_refusalOfYears : ByteArray := prog_1_method_37_code
def yX9_refusalOfYears : MethodName := ⟨RX9, "refusalOfYears", "(I)I"⟩
abbrev cX9_isAsked : ByteArray := prog_1_method_38_code
def yX9_isAsked : MethodName := ⟨RX9, "isAsked", "(III)Z"⟩
abbrev cX9_isLongEnough : ByteArray := prog_1_method_39_code
def yX9_isLongEnough : MethodName := ⟨RX9, "isLongEnough", "(I)Z"⟩
abbrev cX9_isRowLength : ByteArray := prog_1_method_40_code
def yX9_isRowLength : MethodName := ⟨RX9, "isRowLength", "(I)Z"⟩
abbrev cX9_isWithin : ByteArray := prog_1_method_41_code
def yX9_isWithin : MethodName := ⟨RX9, "isWithin", "(III)Z"⟩
abbrev cX9_hasBit : ByteArray := prog_1_method_42_code
def yX9_hasBit : MethodName := ⟨RX9, "hasBit", "(II)Z"⟩
abbrev cX9_meetByDraws : ByteArray := prog_1_method_43_code
def yX9_meetByDraws : MethodName := ⟨RX9, "meetByDraws", "()V"⟩
abbrev cX9_imageOf : ByteArray := prog_1_method_44_code
def yX9_imageOf : MethodName := ⟨RX9, "imageOf", "(I)LParadeRow$Image;"⟩
def RX10 : String := "ParadeRowModel"
def TX10 : u_T := fun k => match k with
  | 0 => ("ParadeRowModel", "persons", "I", false)
  | 1 => ("ParadeRowModel", "changes", "[I", true)
  | 2 => ("ParadeRowModel", "now", "[I", true)
  | 3 => ("ParadeRowModel", "seed", "I", false)
  | 4 => ("ParadeRowModel", "text", "[I", true)
  | 5 => ("ParadeRowModel", "texted", "I", false)
  | 6 => ("ParadeRowModel", "faultPlace", "I", false)
  | 7 => ("ParadeRowModel", "at0", "I", false)
  | 8 => ("ParadeRowModel", "number", "I", false)
  | 9 => ("ParadeRowModel", "numberAt", "I", false)
  | 10 => ("ParadeRowModel", "readPersons", "I", false)
  | 11 => ("ParadeRowModel", "readMarks", "[I", true)
  | 12 => ("ParadeRowModel", "readChanges", "[I", true)
  | 13 => ("ParadeRowModel", "readKnows", "[Z", true)
  | 14 => ("ParadeRowModel", "undos", "I", false)
  | 15 => ("ParadeRowModel", "past", "[I", true)
  | 16 => ("ParadeRowModel", "then", "[I", true)
  | 17 => ("ParadeRowModel", "seen", "I", false)
  | 18 => ("ParadeRowModel", "seenBy", "[I", true)
  | 19 => ("ParadeRowModel", "seenAs", "[I", true)
  | 20 => ("ParadeRowModel", "seenRow", "[I", true)
  | 21 => ("ParadeRowModel", "seenWho", "[I", true)
  | 22 => ("ParadeRowModel", "booked", "I", false)
  | 23 => ("ParadeRowModel", "bookOf", "[I", true)
  | 24 => ("ParadeRowModel", "bookWho", "[I", true)
  | 25 => ("ParadeRowModel", "images", "[I", true)
  | _ => ("ParadeRowModel", "isKept", "[Z", true)
def tyX10 : Nat → FieldType := fun k => match k with
  | 0 => .int
  | 1 => .array .int
  | 2 => .array .int
  | 3 => .int
  | 4 => .array .int
  | 5 => .int
  | 6 => .int
  | 7 => .int
  | 8 => .int
  | 9 => .int
  | 10 => .int
  | 11 => .array .int
  | 12 => .array .int
  | 13 => .array .boolean
  | 14 => .int
  | 15 => .array .int
  | 16 => .array .int
  | 17 => .int
  | 18 => .array .int
  | 19 => .array .int
  | 20 => .array .int
  | 21 => .array .int
  | 22 => .int
  | 23 => .array .int
  | 24 => .array .int
  | 25 => .array .int
  | _ => .array .boolean
theorem nmX10 : ∀ a, a < 27 → ∀ b, b < 27 → a ≠ b → (TX10 a).2.1 ≠ (TX10 b).2.1 := by decide +kernel
theorem tyX10_ok : ∀ k, k < 27 → parseFieldDescriptor (TX10 k).2.2.1 = some (tyX10 k) := by decide +kernel
abbrev cX10_init : ByteArray := prog_12_method_1_code
def yX10_init : MethodName := ⟨RX10, "<init>", "()V"⟩
abbrev cX10_in : ByteArray := prog_12_method_3_code
def yX10_in : MethodName := ⟨RX10, "in", "(JJJ)Z"⟩
abbrev cX10_has : ByteArray := prog_12_method_4_code
def yX10_has : MethodName := ⟨RX10, "has", "(II)Z"⟩
abbrev cX10_bits : ByteArray := prog_12_method_5_code
def yX10_bits : MethodName := ⟨RX10, "bits", "(I)I"⟩
abbrev cX10_isPerson : ByteArray := prog_12_method_6_code
def yX10_isPerson : MethodName := ⟨RX10, "isPerson", "(I)Z"⟩
abbrev cX10_areTwo : ByteArray := prog_12_method_7_code
def yX10_areTwo : MethodName := ⟨RX10, "areTwo", "(II)Z"⟩
abbrev cX10_isRow : ByteArray := prog_12_method_8_code
def yX10_isRow : MethodName := ⟨RX10, "isRow", "(I)Z"⟩
abbrev cX10_feed : ByteArray := prog_12_method_9_code
def yX10_feed : MethodName := ⟨RX10, "feed", "(I)I"⟩
abbrev cX10_here : ByteArray := prog_12_method_10_code
def yX10_here : MethodName := ⟨RX10, "here", "()I"⟩
abbrev cX10_fails : ByteArray := prog_12_method_11_code
def yX10_fails : MethodName := ⟨RX10, "fails", "(II)I"⟩
abbrev cX10_takeNumber : ByteArray := prog_12_method_12_code
def yX10_takeNumber : MethodName := ⟨RX10, "takeNumber", "(II)I"⟩
abbrev cX10_into : ByteArray := prog_12_method_13_code
def yX10_into : MethodName := ⟨RX10, "into", "([IIII)I"⟩
abbrev cX10_takePerson : ByteArray := prog_12_method_14_code
def yX10_takePerson : MethodName := ⟨RX10, "takePerson", "()I"⟩
abbrev cX10_takeKnows : ByteArray := prog_12_method_15_code
def yX10_takeKnows : MethodName := ⟨RX10, "takeKnows", "()I"⟩
abbrev cX10_takeClause : ByteArray := prog_12_method_16_code
def yX10_takeClause : MethodName := ⟨RX10, "takeClause", "()I"⟩
abbrev cX10_takeRead : ByteArray := prog_12_method_17_code
def yX10_takeRead : MethodName := ⟨RX10, "takeRead", "()V"⟩
abbrev cX10_place : ByteArray := prog_12_method_18_code
def yX10_place : MethodName := ⟨RX10, "place", "()I"⟩
abbrev cX10_fault : ByteArray := prog_12_method_19_code
def yX10_fault : MethodName := ⟨RX10, "fault", "()I"⟩
abbrev cX10_twoOfOne : ByteArray := prog_12_method_20_code
def yX10_twoOfOne : MethodName := ⟨RX10, "twoOfOne", "()I"⟩
abbrev cX10_nobody : ByteArray := prog_12_method_21_code
def yX10_nobody : MethodName := ⟨RX10, "nobody", "()I"⟩
abbrev cX10_remembered : ByteArray := prog_12_method_22_code
def yX10_remembered : MethodName := ⟨RX10, "remembered", "(II)I"⟩
abbrev cX10_knownBy : ByteArray := prog_12_method_23_code
def yX10_knownBy : MethodName := ⟨RX10, "knownBy", "(I)I"⟩
abbrev cX10_whoKnow : ByteArray := prog_12_method_24_code
def yX10_whoKnow : MethodName := ⟨RX10, "whoKnow", "(I)I"⟩
abbrev cX10_pairs : ByteArray := prog_12_method_25_code
def yX10_pairs : MethodName := ⟨RX10, "pairs", "()I"⟩
abbrev cX10_told : ByteArray := prog_12_method_26_code
def yX10_told : MethodName := ⟨RX10, "told", "(I)I"⟩
abbrev cX10_person : ByteArray := prog_12_method_27_code
def yX10_person : MethodName := ⟨RX10, "person", "(II)I"⟩
abbrev cX10_remembers : ByteArray := prog_12_method_28_code
def yX10_remembers : MethodName := ⟨RX10, "remembers", "(II)I"⟩
abbrev cX10_apart : ByteArray := prog_12_method_29_code
def yX10_apart : MethodName := ⟨RX10, "apart", "(II)I"⟩
abbrev cX10_pickBy : ByteArray := prog_12_method_30_code
def yX10_pickBy : MethodName := ⟨RX10, "pickBy", "(II)I"⟩
abbrev cX10_sureBy : ByteArray := prog_12_method_31_code
def yX10_sureBy : MethodName := ⟨RX10, "sureBy", "(III)I"⟩
abbrev cX10_remember : ByteArray := prog_12_method_32_code
def yX10_remember : MethodName := ⟨RX10, "remember", "()V"⟩
abbrev cX10_pass : ByteArray := prog_12_method_33_code
def yX10_pass : MethodName := ⟨RX10, "pass", "()V"⟩
abbrev cX10_yearsRefused : ByteArray := prog_12_method_34_code
def yX10_yearsRefused : MethodName := ⟨RX10, "yearsRefused", "(I)I"⟩
abbrev cX10_year : ByteArray := prog_12_method_35_code
def yX10_year : MethodName := ⟨RX10, "year", "(I)I"⟩
abbrev cX10_meet : ByteArray := prog_12_method_36_code
def yX10_meet : MethodName := ⟨RX10, "meet", "(II)I"⟩
abbrev cX10_forget : ByteArray := prog_12_method_37_code
def yX10_forget : MethodName := ⟨RX10, "forget", "(II)I"⟩
abbrev cX10_rowRefused : ByteArray := prog_12_method_38_code
def yX10_rowRefused : MethodName := ⟨RX10, "rowRefused", "(III)I"⟩
abbrev cX10_unknownTo : ByteArray := prog_12_method_39_code
def yX10_unknownTo : MethodName := ⟨RX10, "unknownTo", "(II)I"⟩
abbrev cX10_parade : ByteArray := prog_12_method_40_code
def yX10_parade : MethodName := ⟨RX10, "parade", "(III)I"⟩
abbrev cX10_mark : ByteArray := prog_12_method_41_code
def yX10_mark : MethodName := ⟨RX10, "mark", "(II)I"⟩
abbrev cX10_draw : ByteArray := prog_12_method_42_code
def yX10_draw : MethodName := ⟨RX10, "draw", "(I)I"⟩
abbrev cX10_drift : ByteArray := prog_12_method_43_code
def yX10_drift : MethodName := ⟨RX10, "drift", "(I)I"⟩
abbrev cX10_undo : ByteArray := prog_12_method_44_code
def yX10_undo : MethodName := ⟨RX10, "undo", "()I"⟩
abbrev cX10_sure : ByteArray := prog_12_method_45_code
def yX10_sure : MethodName := ⟨RX10, "sure", "(III)I"⟩
abbrev cX10_bestRow : ByteArray := prog_12_method_46_code
def yX10_bestRow : MethodName := ⟨RX10, "bestRow", "(III)I"⟩
abbrev cX10_odds : ByteArray := prog_12_method_47_code
def yX10_odds : MethodName := ⟨RX10, "odds", "(IIII)I"⟩
abbrev cX10_ask : ByteArray := prog_12_method_48_code
def yX10_ask : MethodName := ⟨RX10, "ask", "(II)I"⟩
abbrev cX10_ringOf : ByteArray := prog_12_method_49_code
def yX10_ringOf : MethodName := ⟨RX10, "ringOf", "(I)I"⟩
abbrev cX10_ring : ByteArray := prog_12_method_50_code
def yX10_ring : MethodName := ⟨RX10, "ring", "(I)I"⟩
abbrev cX10_rings : ByteArray := prog_12_method_51_code
def yX10_rings : MethodName := ⟨RX10, "rings", "(I)I"⟩
abbrev cX10_mask : ByteArray := prog_12_method_52_code
def yX10_mask : MethodName := ⟨RX10, "mask", "(IIII)I"⟩
abbrev cX10_spoil : ByteArray := prog_12_method_53_code
def yX10_spoil : MethodName := ⟨RX10, "spoil", "(IIII)I"⟩
abbrev cX10_impostor : ByteArray := prog_12_method_54_code
def yX10_impostor : MethodName := ⟨RX10, "impostor", "(IIIII)I"⟩
abbrev cX10_lost : ByteArray := prog_12_method_55_code
def yX10_lost : MethodName := ⟨RX10, "lost", "(I)I"⟩
abbrev cX10_alike : ByteArray := prog_12_method_56_code
def yX10_alike : MethodName := ⟨RX10, "alike", "(I)I"⟩
abbrev cX10_see : ByteArray := prog_12_method_57_code
def yX10_see : MethodName := ⟨RX10, "see", "(IIII)I"⟩
abbrev cX10_nodsOf : ByteArray := prog_12_method_58_code
def yX10_nodsOf : MethodName := ⟨RX10, "nodsOf", "(I)I"⟩
abbrev cX10_honest : ByteArray := prog_12_method_59_code
def yX10_honest : MethodName := ⟨RX10, "honest", "()I"⟩
abbrev cX10_nods : ByteArray := prog_12_method_60_code
def yX10_nods : MethodName := ⟨RX10, "nods", "(I)I"⟩
abbrev cX10_spread : ByteArray := prog_12_method_61_code
def yX10_spread : MethodName := ⟨RX10, "spread", "(II)I"⟩
abbrev cX10_showNext : ByteArray := prog_12_method_62_code
def yX10_showNext : MethodName := ⟨RX10, "showNext", "(II)I"⟩
abbrev cX10_write : ByteArray := prog_12_method_63_code
def yX10_write : MethodName := ⟨RX10, "write", "(II)I"⟩
abbrev cX10_tear : ByteArray := prog_12_method_64_code
def yX10_tear : MethodName := ⟨RX10, "tear", "()I"⟩
abbrev cX10_judge : ByteArray := prog_12_method_65_code
def yX10_judge : MethodName := ⟨RX10, "judge", "()I"⟩
abbrev cX10_seed : ByteArray := prog_12_method_66_code
def yX10_seed : MethodName := ⟨RX10, "seed", "(I)I"⟩
abbrev cX10_keep : ByteArray := prog_12_method_67_code
def yX10_keep : MethodName := ⟨RX10, "keep", "(I)I"⟩
abbrev cX10_goBack : ByteArray := prog_12_method_68_code
def yX10_goBack : MethodName := ⟨RX10, "goBack", "(I)I"⟩
def RJ6 : String := "java/lang/Integer"
def TJ6 : u_T := fun k => match k with
  | _ => ("", "", "", false)
def tyJ6 : Nat → FieldType := fun k => match k with
  | _ => .int
theorem nmJ6 : ∀ a, a < 0 → ∀ b, b < 0 → a ≠ b → (TJ6 a).2.1 ≠ (TJ6 b).2.1 := by decide +kernel
theorem tyJ6_ok : ∀ k, k < 0 → parseFieldDescriptor (TJ6 k).2.2.1 = some (tyJ6 k) := by decide +kernel
abbrev cJ6_bitCount_0f7a4 : ByteArray := prog_13_method_49_code
def yJ6_bitCount_0f7a4 : MethodName := ⟨RJ6, "bitCount", "(I)I"⟩
def RJ9 : String := "java/lang/Math"
def TJ9 : u_T := fun k => match k with
  | _ => ("", "", "", false)
def tyJ9 : Nat → FieldType := fun k => match k with
  | _ => .int
theorem nmJ9 : ∀ a, a < 0 → ∀ b, b < 0 → a ≠ b → (TJ9 a).2.1 ≠ (TJ9 b).2.1 := by decide +kernel
theorem tyJ9_ok : ∀ k, k < 0 → parseFieldDescriptor (TJ9 k).2.2.1 = some (tyJ9 k) := by decide +kernel
abbrev cJ9_max_7cf53 : ByteArray := prog_14_method_65_code
def yJ9_max_7cf53 : MethodName := ⟨RJ9, "max", "(II)I"⟩
abbrev cJ9_min_7cf53 : ByteArray := prog_14_method_69_code
def yJ9_min_7cf53 : MethodName := ⟨RJ9, "min", "(II)I"⟩
def RJ10 : String := "java/lang/System"
def TJ10 : u_T := fun k => match k with
  | _ => ("", "", "", false)
def tyJ10 : Nat → FieldType := fun k => match k with
  | _ => .int
theorem nmJ10 : ∀ a, a < 0 → ∀ b, b < 0 → a ≠ b → (TJ10 a).2.1 ≠ (TJ10 b).2.1 := by decide +kernel
theorem tyJ10_ok : ∀ k, k < 0 → parseFieldDescriptor (TJ10 k).2.2.1 = some (tyJ10 k) := by decide +kernel
def RJ7 : String := "java/util/Arrays"
def TJ7 : u_T := fun k => match k with
  | _ => ("", "", "", false)
def tyJ7 : Nat → FieldType := fun k => match k with
  | _ => .int
theorem nmJ7 : ∀ a, a < 0 → ∀ b, b < 0 → a ≠ b → (TJ7 a).2.1 ≠ (TJ7 b).2.1 := by decide +kernel
theorem tyJ7_ok : ∀ k, k < 0 → parseFieldDescriptor (TJ7 k).2.2.1 = some (tyJ7 k) := by decide +kernel
abbrev cJ7_fill_53178 : ByteArray := prog_16_method_103_code
def yJ7_fill_53178 : MethodName := ⟨RJ7, "fill", "([II)V"⟩
def RL : String := "ParadeRowLaw"
abbrev cL_law : ByteArray := code
def yL_law : MethodName := ⟨RL, "law", "([I)Z"⟩
abbrev vwCl : List vw_C := [(RX0, TX0, 3), (RX1, TX1, 1), (RX3, TX3, 3), (RX4, TX4, 3), (RX5, TX5, 6), (RX7, TX7, 5), (RX8, TX8, 6), (RX9, TX9, 9), (RX10, TX10, 27)]
abbrev mX0_init : MethodName × ByteArray × Nat × Option FieldType := (yX0_init, cX0_init, 1, none)
abbrev mX0_empty : MethodName × ByteArray × Nat × Option FieldType := (yX0_empty, cX0_empty, 1, none)
abbrev mX0_hasRoom : MethodName × ByteArray × Nat × Option FieldType := (yX0_hasRoom, cX0_hasRoom, 1, (some .boolean))
abbrev mX0_add : MethodName × ByteArray × Nat × Option FieldType := (yX0_add, cX0_add, 3, (some .int))
abbrev mX0_firstWrong : MethodName × ByteArray × Nat × Option FieldType := (yX0_firstWrong, cX0_firstWrong, 3, (some .int))
abbrev mX1_init : MethodName × ByteArray × Nat × Option FieldType := (yX1_init, cX1_init, 1, none)
abbrev mX1_drawOf : MethodName × ByteArray × Nat × Option FieldType := (yX1_drawOf, cX1_drawOf, 2, (some .int))
abbrev mX2_apart : MethodName × ByteArray × Nat × Option FieldType := (yX2_apart, cX2_apart, 2, (some .int))
abbrev mX2_apartOf : MethodName × ByteArray × Nat × Option FieldType := (yX2_apartOf, cX2_apartOf, 3, (some .int))
abbrev mX2_pick : MethodName × ByteArray × Nat × Option FieldType := (yX2_pick, cX2_pick, 6, (some .int))
abbrev mX2_sureness : MethodName × ByteArray × Nat × Option FieldType := (yX2_sureness, cX2_sureness, 5, (some .int))
abbrev mX2_lead : MethodName × ByteArray × Nat × Option FieldType := (yX2_lead, cX2_lead, 8, (some .int))
abbrev mX2_oddsOf : MethodName × ByteArray × Nat × Option FieldType := (yX2_oddsOf, cX2_oddsOf, 6, (some .int))
abbrev mX2_weightIn : MethodName × ByteArray × Nat × Option FieldType := (yX2_weightIn, cX2_weightIn, 4, (some .int))
abbrev mX2_spread : MethodName × ByteArray × Nat × Option FieldType := (yX2_spread, cX2_spread, 6, (some .int))
abbrev mX3_init : MethodName × ByteArray × Nat × Option FieldType := (yX3_init, cX3_init, 1, none)
abbrev mX3_take : MethodName × ByteArray × Nat × Option FieldType := (yX3_take, cX3_take, 3, none)
abbrev mX3_drop : MethodName × ByteArray × Nat × Option FieldType := (yX3_drop, cX3_drop, 1, none)
abbrev mX4_init : MethodName × ByteArray × Nat × Option FieldType := (yX4_init, cX4_init, 2, none)
abbrev mX4_empty : MethodName × ByteArray × Nat × Option FieldType := (yX4_empty, cX4_empty, 1, none)
abbrev mX4_push : MethodName × ByteArray × Nat × Option FieldType := (yX4_push, cX4_push, 3, none)
abbrev mX4_popInto : MethodName × ByteArray × Nat × Option FieldType := (yX4_popInto, cX4_popInto, 4, (some .boolean))
abbrev mX4_stateAt : MethodName × ByteArray × Nat × Option FieldType := (yX4_stateAt, cX4_stateAt, 2, (some (.object "ParadeRow$People")))
abbrev mX5_init : MethodName × ByteArray × Nat × Option FieldType := (yX5_init, cX5_init, 1, none)
abbrev mX5_empty : MethodName × ByteArray × Nat × Option FieldType := (yX5_empty, cX5_empty, 1, none)
abbrev mX5_become : MethodName × ByteArray × Nat × Option FieldType := (yX5_become, cX5_become, 2, none)
abbrev mX5_add : MethodName × ByteArray × Nat × Option FieldType := (yX5_add, cX5_add, 3, none)
abbrev mX5_has : MethodName × ByteArray × Nat × Option FieldType := (yX5_has, cX5_has, 2, (some .boolean))
abbrev mX5_isPair : MethodName × ByteArray × Nat × Option FieldType := (yX5_isPair, cX5_isPair, 3, (some .boolean))
abbrev mX5_everybody : MethodName × ByteArray × Nat × Option FieldType := (yX5_everybody, cX5_everybody, 1, (some .int))
abbrev mX5_holdsAll : MethodName × ByteArray × Nat × Option FieldType := (yX5_holdsAll, cX5_holdsAll, 2, (some .boolean))
abbrev mX5_marksOf : MethodName × ByteArray × Nat × Option FieldType := (yX5_marksOf, cX5_marksOf, 2, (some .int))
abbrev mX5_changesOf : MethodName × ByteArray × Nat × Option FieldType := (yX5_changesOf, cX5_changesOf, 2, (some .int))
abbrev mX5_identityOf : MethodName × ByteArray × Nat × Option FieldType := (yX5_identityOf, cX5_identityOf, 2, (some .int))
abbrev mX5_memoryOf : MethodName × ByteArray × Nat × Option FieldType := (yX5_memoryOf, cX5_memoryOf, 3, (some .int))
abbrev mX5_knows : MethodName × ByteArray × Nat × Option FieldType := (yX5_knows, cX5_knows, 3, (some .boolean))
abbrev mX5_flip : MethodName × ByteArray × Nat × Option FieldType := (yX5_flip, cX5_flip, 3, none)
abbrev mX5_learn : MethodName × ByteArray × Nat × Option FieldType := (yX5_learn, cX5_learn, 3, none)
abbrev mX5_unlearn : MethodName × ByteArray × Nat × Option FieldType := (yX5_unlearn, cX5_unlearn, 3, none)
abbrev mX5_identify : MethodName × ByteArray × Nat × Option FieldType := (yX5_identify, cX5_identify, 3, none)
abbrev mX5_passYears : MethodName × ByteArray × Nat × Option FieldType := (yX5_passYears, cX5_passYears, 4, none)
abbrev mX5_knownBy : MethodName × ByteArray × Nat × Option FieldType := (yX5_knownBy, cX5_knownBy, 4, (some .int))
abbrev mX5_knowersOf : MethodName × ByteArray × Nat × Option FieldType := (yX5_knowersOf, cX5_knowersOf, 4, (some .int))
abbrev mX5_countAcquaintances : MethodName × ByteArray × Nat × Option FieldType := (yX5_countAcquaintances, cX5_countAcquaintances, 3, (some .int))
abbrev mX5_whoAre : MethodName × ByteArray × Nat × Option FieldType := (yX5_whoAre, cX5_whoAre, 4, (some .int))
abbrev mX5_twoOfOne : MethodName × ByteArray × Nat × Option FieldType := (yX5_twoOfOne, cX5_twoOfOne, 4, (some .int))
abbrev mX5_nobodies : MethodName × ByteArray × Nat × Option FieldType := (yX5_nobodies, cX5_nobodies, 3, (some .int))
abbrev mX5_stepsBackTo : MethodName × ByteArray × Nat × Option FieldType := (yX5_stepsBackTo, cX5_stepsBackTo, 4, (some .int))
abbrev mX5_countInRings : MethodName × ByteArray × Nat × Option FieldType := (yX5_countInRings, cX5_countInRings, 3, (some .int))
abbrev mX5_countAstray : MethodName × ByteArray × Nat × Option FieldType := (yX5_countAstray, cX5_countAstray, 3, (some .int))
abbrev mX5_countAstrayAndKnown : MethodName × ByteArray × Nat × Option FieldType := (yX5_countAstrayAndKnown, cX5_countAstrayAndKnown, 3, (some .int))
abbrev mX5_isFaded : MethodName × ByteArray × Nat × Option FieldType := (yX5_isFaded, cX5_isFaded, 3, (some .boolean))
abbrev mX5_fadedPair : MethodName × ByteArray × Nat × Option FieldType := (yX5_fadedPair, cX5_fadedPair, 5, (some .int))
abbrev mX5_firstTwins : MethodName × ByteArray × Nat × Option FieldType := (yX5_firstTwins, cX5_firstTwins, 3, (some .int))
abbrev mX6_surest : MethodName × ByteArray × Nat × Option FieldType := (yX6_surest, cX6_surest, 10, (some .int))
abbrev mX6_surestWitness : MethodName × ByteArray × Nat × Option FieldType := (yX6_surestWitness, cX6_surestWitness, 7, (some .int))
abbrev mX6_fewestMarks : MethodName × ByteArray × Nat × Option FieldType := (yX6_fewestMarks, cX6_fewestMarks, 10, (some .int))
abbrev mX6_countPicking : MethodName × ByteArray × Nat × Option FieldType := (yX6_countPicking, cX6_countPicking, 8, (some .int))
abbrev mX6_leastPicking : MethodName × ByteArray × Nat × Option FieldType := (yX6_leastPicking, cX6_leastPicking, 7, (some .int))
abbrev mX6_widest : MethodName × ByteArray × Nat × Option FieldType := (yX6_widest, cX6_widest, 8, (some .int))
abbrev mX6_isRowOf : MethodName × ByteArray × Nat × Option FieldType := (yX6_isRowOf, cX6_isRowOf, 3, (some .boolean))
abbrev mX6_isRowWith : MethodName × ByteArray × Nat × Option FieldType := (yX6_isRowWith, cX6_isRowWith, 4, (some .boolean))
abbrev mX7_init : MethodName × ByteArray × Nat × Option FieldType := (yX7_init, cX7_init, 1, none)
abbrev mX7_empty : MethodName × ByteArray × Nat × Option FieldType := (yX7_empty, cX7_empty, 1, none)
abbrev mX7_hasRoom : MethodName × ByteArray × Nat × Option FieldType := (yX7_hasRoom, cX7_hasRoom, 1, (some .boolean))
abbrev mX7_add : MethodName × ByteArray × Nat × Option FieldType := (yX7_add, cX7_add, 5, (some .int))
abbrev mX7_countOtherwise : MethodName × ByteArray × Nat × Option FieldType := (yX7_countOtherwise, cX7_countOtherwise, 5, (some .int))
abbrev mX7_pickNow : MethodName × ByteArray × Nat × Option FieldType := (yX7_pickNow, cX7_pickNow, 4, (some .int))
abbrev mX8_init : MethodName × ByteArray × Nat × Option FieldType := (yX8_init, cX8_init, 1, none)
abbrev mX8_hasRoom : MethodName × ByteArray × Nat × Option FieldType := (yX8_hasRoom, cX8_hasRoom, 1, (some .boolean))
abbrev mX8_append : MethodName × ByteArray × Nat × Option FieldType := (yX8_append, cX8_append, 2, (some .int))
abbrev mX8_empty : MethodName × ByteArray × Nat × Option FieldType := (yX8_empty, cX8_empty, 1, none)
abbrev mX8_tellInto : MethodName × ByteArray × Nat × Option FieldType := (yX8_tellInto, cX8_tellInto, 3, (some .int))
abbrev mX8_readClause : MethodName × ByteArray × Nat × Option FieldType := (yX8_readClause, cX8_readClause, 3, none)
abbrev mX8_readPerson : MethodName × ByteArray × Nat × Option FieldType := (yX8_readPerson, cX8_readPerson, 4, none)
abbrev mX8_readAcquaintance : MethodName × ByteArray × Nat × Option FieldType := (yX8_readAcquaintance, cX8_readAcquaintance, 4, none)
abbrev mX8_readNumber : MethodName × ByteArray × Nat × Option FieldType := (yX8_readNumber, cX8_readNumber, 4, (some .int))
abbrev mX8_readEndOfClause : MethodName × ByteArray × Nat × Option FieldType := (yX8_readEndOfClause, cX8_readEndOfClause, 1, none)
abbrev mX8_skipBlanks : MethodName × ByteArray × Nat × Option FieldType := (yX8_skipBlanks, cX8_skipBlanks, 1, none)
abbrev mX8_letterHere : MethodName × ByteArray × Nat × Option FieldType := (yX8_letterHere, cX8_letterHere, 1, (some .int))
abbrev mX8_isFigure : MethodName × ByteArray × Nat × Option FieldType := (yX8_isFigure, cX8_isFigure, 1, (some .boolean))
abbrev mX8_blame : MethodName × ByteArray × Nat × Option FieldType := (yX8_blame, cX8_blame, 3, none)
abbrev mX9_init : MethodName × ByteArray × Nat × Option FieldType := (yX9_init, cX9_init, 1, none)
abbrev mX9_feed : MethodName × ByteArray × Nat × Option FieldType := (yX9_feed, cX9_feed, 3, (some .int))
abbrev mX9_place : MethodName × ByteArray × Nat × Option FieldType := (yX9_place, cX9_place, 2, (some .int))
abbrev mX9_fault : MethodName × ByteArray × Nat × Option FieldType := (yX9_fault, cX9_fault, 1, (some .int))
abbrev mX9_told : MethodName × ByteArray × Nat × Option FieldType := (yX9_told, cX9_told, 2, (some .int))
abbrev mX9_person : MethodName × ByteArray × Nat × Option FieldType := (yX9_person, cX9_person, 3, (some .int))
abbrev mX9_remembers : MethodName × ByteArray × Nat × Option FieldType := (yX9_remembers, cX9_remembers, 3, (some .int))
abbrev mX9_year : MethodName × ByteArray × Nat × Option FieldType := (yX9_year, cX9_year, 3, (some .int))
abbrev mX9_meet : MethodName × ByteArray × Nat × Option FieldType := (yX9_meet, cX9_meet, 4, (some .int))
abbrev mX9_forget : MethodName × ByteArray × Nat × Option FieldType := (yX9_forget, cX9_forget, 5, (some .int))
abbrev mX9_parade : MethodName × ByteArray × Nat × Option FieldType := (yX9_parade, cX9_parade, 6, (some .int))
abbrev mX9_mark : MethodName × ByteArray × Nat × Option FieldType := (yX9_mark, cX9_mark, 4, (some .int))
abbrev mX9_drift : MethodName × ByteArray × Nat × Option FieldType := (yX9_drift, cX9_drift, 4, (some .int))
abbrev mX9_undo : MethodName × ByteArray × Nat × Option FieldType := (yX9_undo, cX9_undo, 1, (some .int))
abbrev mX9_sure : MethodName × ByteArray × Nat × Option FieldType := (yX9_sure, cX9_sure, 5, (some .int))
abbrev mX9_bestRow : MethodName × ByteArray × Nat × Option FieldType := (yX9_bestRow, cX9_bestRow, 5, (some .int))
abbrev mX9_odds : MethodName × ByteArray × Nat × Option FieldType := (yX9_odds, cX9_odds, 6, (some .int))
abbrev mX9_ask : MethodName × ByteArray × Nat × Option FieldType := (yX9_ask, cX9_ask, 4, (some .int))
abbrev mX9_ring : MethodName × ByteArray × Nat × Option FieldType := (yX9_ring, cX9_ring, 2, (some .int))
abbrev mX9_rings : MethodName × ByteArray × Nat × Option FieldType := (yX9_rings, cX9_rings, 2, (some .int))
abbrev mX9_mask : MethodName × ByteArray × Nat × Option FieldType := (yX9_mask, cX9_mask, 7, (some .int))
abbrev mX9_spoil : MethodName × ByteArray × Nat × Option FieldType := (yX9_spoil, cX9_spoil, 7, (some .int))
abbrev mX9_impostor : MethodName × ByteArray × Nat × Option FieldType := (yX9_impostor, cX9_impostor, 9, (some .int))
abbrev mX9_lost : MethodName × ByteArray × Nat × Option FieldType := (yX9_lost, cX9_lost, 2, (some .int))
abbrev mX9_alike : MethodName × ByteArray × Nat × Option FieldType := (yX9_alike, cX9_alike, 2, (some .int))
abbrev mX9_see : MethodName × ByteArray × Nat × Option FieldType := (yX9_see, cX9_see, 7, (some .int))
abbrev mX9_honest : MethodName × ByteArray × Nat × Option FieldType := (yX9_honest, cX9_honest, 3, (some .int))
abbrev mX9_nods : MethodName × ByteArray × Nat × Option FieldType := (yX9_nods, cX9_nods, 2, (some .int))
abbrev mX9_showNext : MethodName × ByteArray × Nat × Option FieldType := (yX9_showNext, cX9_showNext, 4, (some .int))
abbrev mX9_write : MethodName × ByteArray × Nat × Option FieldType := (yX9_write, cX9_write, 4, (some .int))
abbrev mX9_tear : MethodName × ByteArray × Nat × Option FieldType := (yX9_tear, cX9_tear, 2, (some .int))
abbrev mX9_judge : MethodName × ByteArray × Nat × Option FieldType := (yX9_judge, cX9_judge, 1, (some .int))
abbrev mX9_seed : MethodName × ByteArray × Nat × Option FieldType := (yX9_seed, cX9_seed, 3, (some .int))
abbrev mX9_keep : MethodName × ByteArray × Nat × Option FieldType := (yX9_keep, cX9_keep, 3, (some .int))
abbrev mX9_goBack : MethodName × ByteArray × Nat × Option FieldType := (yX9_goBack, cX9_goBack, 3, (some .int))
abbrev mX9_refusal : MethodName × ByteArray × Nat × Option FieldType := (yX9_refusal, cX9_refusal, 4, (some .int))
abbrev mX9_refusalOfYears : MethodName × ByteArray × Nat × Option FieldType := (yX9_refusalOfYears, cX9_refusalOfYears, 2, (some .int))
abbrev mX9_isAsked : MethodName × ByteArray × Nat × Option FieldType := (yX9_isAsked, cX9_isAsked, 4, (some .boolean))
abbrev mX9_isLongEnough : MethodName × ByteArray × Nat × Option FieldType := (yX9_isLongEnough, cX9_isLongEnough, 1, (some .boolean))
abbrev mX9_isRowLength : MethodName × ByteArray × Nat × Option FieldType := (yX9_isRowLength, cX9_isRowLength, 1, (some .boolean))
abbrev mX9_isWithin : MethodName × ByteArray × Nat × Option FieldType := (yX9_isWithin, cX9_isWithin, 3, (some .boolean))
abbrev mX9_hasBit : MethodName × ByteArray × Nat × Option FieldType := (yX9_hasBit, cX9_hasBit, 2, (some .boolean))
abbrev mX9_meetByDraws : MethodName × ByteArray × Nat × Option FieldType := (yX9_meetByDraws, cX9_meetByDraws, 3, none)
abbrev mX9_imageOf : MethodName × ByteArray × Nat × Option FieldType := (yX9_imageOf, cX9_imageOf, 2, (some (.object "ParadeRow$Image")))
abbrev mX10_init : MethodName × ByteArray × Nat × Option FieldType := (yX10_init, cX10_init, 2, none)
abbrev mX10_in : MethodName × ByteArray × Nat × Option FieldType := (yX10_in, cX10_in, 6, (some .boolean))
abbrev mX10_has : MethodName × ByteArray × Nat × Option FieldType := (yX10_has, cX10_has, 2, (some .boolean))
abbrev mX10_bits : MethodName × ByteArray × Nat × Option FieldType := (yX10_bits, cX10_bits, 3, (some .int))
abbrev mX10_isPerson : MethodName × ByteArray × Nat × Option FieldType := (yX10_isPerson, cX10_isPerson, 2, (some .boolean))
abbrev mX10_areTwo : MethodName × ByteArray × Nat × Option FieldType := (yX10_areTwo, cX10_areTwo, 3, (some .boolean))
abbrev mX10_isRow : MethodName × ByteArray × Nat × Option FieldType := (yX10_isRow, cX10_isRow, 2, (some .boolean))
abbrev mX10_feed : MethodName × ByteArray × Nat × Option FieldType := (yX10_feed, cX10_feed, 2, (some .int))
abbrev mX10_here : MethodName × ByteArray × Nat × Option FieldType := (yX10_here, cX10_here, 1, (some .int))
abbrev mX10_fails : MethodName × ByteArray × Nat × Option FieldType := (yX10_fails, cX10_fails, 3, (some .int))
abbrev mX10_takeNumber : MethodName × ByteArray × Nat × Option FieldType := (yX10_takeNumber, cX10_takeNumber, 4, (some .int))
abbrev mX10_into : MethodName × ByteArray × Nat × Option FieldType := (yX10_into, cX10_into, 6, (some .int))
abbrev mX10_takePerson : MethodName × ByteArray × Nat × Option FieldType := (yX10_takePerson, cX10_takePerson, 3, (some .int))
abbrev mX10_takeKnows : MethodName × ByteArray × Nat × Option FieldType := (yX10_takeKnows, cX10_takeKnows, 3, (some .int))
abbrev mX10_takeClause : MethodName × ByteArray × Nat × Option FieldType := (yX10_takeClause, cX10_takeClause, 3, (some .int))
abbrev mX10_takeRead : MethodName × ByteArray × Nat × Option FieldType := (yX10_takeRead, cX10_takeRead, 3, none)
abbrev mX10_place : MethodName × ByteArray × Nat × Option FieldType := (yX10_place, cX10_place, 2, (some .int))
abbrev mX10_fault : MethodName × ByteArray × Nat × Option FieldType := (yX10_fault, cX10_fault, 1, (some .int))
abbrev mX10_twoOfOne : MethodName × ByteArray × Nat × Option FieldType := (yX10_twoOfOne, cX10_twoOfOne, 4, (some .int))
abbrev mX10_nobody : MethodName × ByteArray × Nat × Option FieldType := (yX10_nobody, cX10_nobody, 3, (some .int))
abbrev mX10_remembered : MethodName × ByteArray × Nat × Option FieldType := (yX10_remembered, cX10_remembered, 3, (some .int))
abbrev mX10_knownBy : MethodName × ByteArray × Nat × Option FieldType := (yX10_knownBy, cX10_knownBy, 4, (some .int))
abbrev mX10_whoKnow : MethodName × ByteArray × Nat × Option FieldType := (yX10_whoKnow, cX10_whoKnow, 4, (some .int))
abbrev mX10_pairs : MethodName × ByteArray × Nat × Option FieldType := (yX10_pairs, cX10_pairs, 3, (some .int))
abbrev mX10_told : MethodName × ByteArray × Nat × Option FieldType := (yX10_told, cX10_told, 2, (some .int))
abbrev mX10_person : MethodName × ByteArray × Nat × Option FieldType := (yX10_person, cX10_person, 3, (some .int))
abbrev mX10_remembers : MethodName × ByteArray × Nat × Option FieldType := (yX10_remembers, cX10_remembers, 3, (some .int))
abbrev mX10_apart : MethodName × ByteArray × Nat × Option FieldType := (yX10_apart, cX10_apart, 2, (some .int))
abbrev mX10_pickBy : MethodName × ByteArray × Nat × Option FieldType := (yX10_pickBy, cX10_pickBy, 7, (some .int))
abbrev mX10_sureBy : MethodName × ByteArray × Nat × Option FieldType := (yX10_sureBy, cX10_sureBy, 7, (some .int))
abbrev mX10_remember : MethodName × ByteArray × Nat × Option FieldType := (yX10_remember, cX10_remember, 2, none)
abbrev mX10_pass : MethodName × ByteArray × Nat × Option FieldType := (yX10_pass, cX10_pass, 3, none)
abbrev mX10_yearsRefused : MethodName × ByteArray × Nat × Option FieldType := (yX10_yearsRefused, cX10_yearsRefused, 2, (some .int))
abbrev mX10_year : MethodName × ByteArray × Nat × Option FieldType := (yX10_year, cX10_year, 4, (some .int))
abbrev mX10_meet : MethodName × ByteArray × Nat × Option FieldType := (yX10_meet, cX10_meet, 4, (some .int))
abbrev mX10_forget : MethodName × ByteArray × Nat × Option FieldType := (yX10_forget, cX10_forget, 4, (some .int))
abbrev mX10_rowRefused : MethodName × ByteArray × Nat × Option FieldType := (yX10_rowRefused, cX10_rowRefused, 4, (some .int))
abbrev mX10_unknownTo : MethodName × ByteArray × Nat × Option FieldType := (yX10_unknownTo, cX10_unknownTo, 3, (some .int))
abbrev mX10_parade : MethodName × ByteArray × Nat × Option FieldType := (yX10_parade, cX10_parade, 6, (some .int))
abbrev mX10_mark : MethodName × ByteArray × Nat × Option FieldType := (yX10_mark, cX10_mark, 3, (some .int))
abbrev mX10_draw : MethodName × ByteArray × Nat × Option FieldType := (yX10_draw, cX10_draw, 2, (some .int))
abbrev mX10_drift : MethodName × ByteArray × Nat × Option FieldType := (yX10_drift, cX10_drift, 6, (some .int))
abbrev mX10_undo : MethodName × ByteArray × Nat × Option FieldType := (yX10_undo, cX10_undo, 2, (some .int))
abbrev mX10_sure : MethodName × ByteArray × Nat × Option FieldType := (yX10_sure, cX10_sure, 5, (some .int))
abbrev mX10_bestRow : MethodName × ByteArray × Nat × Option FieldType := (yX10_bestRow, cX10_bestRow, 8, (some .int))
abbrev mX10_odds : MethodName × ByteArray × Nat × Option FieldType := (yX10_odds, cX10_odds, 8, (some .int))
abbrev mX10_ask : MethodName × ByteArray × Nat × Option FieldType := (yX10_ask, cX10_ask, 7, (some .int))
abbrev mX10_ringOf : MethodName × ByteArray × Nat × Option FieldType := (yX10_ringOf, cX10_ringOf, 4, (some .int))
abbrev mX10_ring : MethodName × ByteArray × Nat × Option FieldType := (yX10_ring, cX10_ring, 2, (some .int))
abbrev mX10_rings : MethodName × ByteArray × Nat × Option FieldType := (yX10_rings, cX10_rings, 6, (some .int))
abbrev mX10_mask : MethodName × ByteArray × Nat × Option FieldType := (yX10_mask, cX10_mask, 9, (some .int))
abbrev mX10_spoil : MethodName × ByteArray × Nat × Option FieldType := (yX10_spoil, cX10_spoil, 9, (some .int))
abbrev mX10_impostor : MethodName × ByteArray × Nat × Option FieldType := (yX10_impostor, cX10_impostor, 9, (some .int))
abbrev mX10_lost : MethodName × ByteArray × Nat × Option FieldType := (yX10_lost, cX10_lost, 5, (some .int))
abbrev mX10_alike : MethodName × ByteArray × Nat × Option FieldType := (yX10_alike, cX10_alike, 5, (some .int))
abbrev mX10_see : MethodName × ByteArray × Nat × Option FieldType := (yX10_see, cX10_see, 6, (some .int))
abbrev mX10_nodsOf : MethodName × ByteArray × Nat × Option FieldType := (yX10_nodsOf, cX10_nodsOf, 5, (some .int))
abbrev mX10_honest : MethodName × ByteArray × Nat × Option FieldType := (yX10_honest, cX10_honest, 3, (some .int))
abbrev mX10_nods : MethodName × ByteArray × Nat × Option FieldType := (yX10_nods, cX10_nods, 2, (some .int))
abbrev mX10_spread : MethodName × ByteArray × Nat × Option FieldType := (yX10_spread, cX10_spread, 7, (some .int))
abbrev mX10_showNext : MethodName × ByteArray × Nat × Option FieldType := (yX10_showNext, cX10_showNext, 7, (some .int))
abbrev mX10_write : MethodName × ByteArray × Nat × Option FieldType := (yX10_write, cX10_write, 3, (some .int))
abbrev mX10_tear : MethodName × ByteArray × Nat × Option FieldType := (yX10_tear, cX10_tear, 2, (some .int))
abbrev mX10_judge : MethodName × ByteArray × Nat × Option FieldType := (yX10_judge, cX10_judge, 2, (some .int))
abbrev mX10_seed : MethodName × ByteArray × Nat × Option FieldType := (yX10_seed, cX10_seed, 3, (some .int))
abbrev mX10_keep : MethodName × ByteArray × Nat × Option FieldType := (yX10_keep, cX10_keep, 3, (some .int))
abbrev mX10_goBack : MethodName × ByteArray × Nat × Option FieldType := (yX10_goBack, cX10_goBack, 3, (some .int))
abbrev mJ6_bitCount_0f7a4 : MethodName × ByteArray × Nat × Option FieldType := (yJ6_bitCount_0f7a4, cJ6_bitCount_0f7a4, 1, (some .int))
abbrev mJ9_max_7cf53 : MethodName × ByteArray × Nat × Option FieldType := (yJ9_max_7cf53, cJ9_max_7cf53, 2, (some .int))
abbrev mJ9_min_7cf53 : MethodName × ByteArray × Nat × Option FieldType := (yJ9_min_7cf53, cJ9_min_7cf53, 2, (some .int))
abbrev mJ7_fill_53178 : MethodName × ByteArray × Nat × Option FieldType := (yJ7_fill_53178, cJ7_fill_53178, 4, none)
abbrev mL_law : MethodName × ByteArray × Nat × Option FieldType := (yL_law, cL_law, 4, (some .boolean))
end
section
theorem dX0_init_0 : decode cX0_init 0 = .ok (.aload_n 0, 1) := by decide +kernel
theorem dX0_init_1 : decode cX0_init 1 = .ok (.invokespecial 3, 3) := by decide +kernel
theorem dX0_init_4 : decode cX0_init 4 = .ok (.aload_n 0, 1) := by decide +kernel
theorem dX0_init_5 : decode cX0_init 5 = .ok (.bipush 15, 2) := by decide +kernel
theorem dX0_init_7 : decode cX0_init 7 = .ok (.newarray .int, 2) := by decide +kernel
theorem dX0_init_9 : decode cX0_init 9 = .ok (.putfield 9, 3) := by decide +kernel
theorem dX0_init_12 : decode cX0_init 12 = .ok (.aload_n 0, 1) := by decide +kernel
theorem dX0_init_13 : decode cX0_init 13 = .ok (.bipush 15, 2) := by decide +kernel
theorem dX0_init_15 : decode cX0_init 15 = .ok (.newarray .int, 2) := by decide +kernel
theorem dX0_init_17 : decode cX0_init 17 = .ok (.putfield 15, 3) := by decide +kernel
theorem dX0_init_20 : decode cX0_init 20 = .ok (.return_, 1) := by decide +kernel
theorem dX0_empty_0 : decode cX0_empty 0 = .ok (.aload_n 0, 1) := by decide +kernel
theorem dX0_empty_1 : decode cX0_empty 1 = .ok (.iconst 0, 1) := by decide +kernel
theorem dX0_empty_2 : decode cX0_empty 2 = .ok (.putfield 18, 3) := by decide +kernel
theorem dX0_empty_5 : decode cX0_empty 5 = .ok (.return_, 1) := by decide +kernel
theorem dX0_hasRoom_0 : decode cX0_hasRoom 0 = .ok (.aload_n 0, 1) := by decide +kernel
theorem dX0_hasRoom_1 : decode cX0_hasRoom 1 = .ok (.getfield 18, 3) := by decide +kernel
theorem dX0_hasRoom_4 : decode cX0_hasRoom 4 = .ok (.bipush 15, 2) := by decide +kernel
theorem dX0_hasRoom_6 : decode cX0_hasRoom 6 = .ok (.if_icmp .ge 7, 3) := by decide +kernel
theorem dX0_hasRoom_9 : decode cX0_hasRoom 9 = .ok (.iconst 1, 1) := by decide +kernel
theorem dX0_hasRoom_10 : decode cX0_hasRoom 10 = .ok (.goto 4, 3) := by decide +kernel
theorem dX0_hasRoom_13 : decode cX0_hasRoom 13 = .ok (.iconst 0, 1) := by decide +kernel
theorem dX0_hasRoom_14 : decode cX0_hasRoom 14 = .ok (.ireturn, 1) := by decide +kernel
theorem dX0_add_0 : decode cX0_add 0 = .ok (.aload_n 0, 1) := by decide +kernel
theorem dX0_add_1 : decode cX0_add 1 = .ok (.getfield 18, 3) := by decide +kernel
theorem dX0_add_4 : decode cX0_add 4 = .ok (.iconst 0, 1) := by decide +kernel
theorem dX0_add_5 : decode cX0_add 5 = .ok (.bipush 14, 2) := by decide +kernel
theorem dX0_add_7 : decode cX0_add 7 = .ok (.invokestatic 22, 3) := by decide +kernel
theorem dX0_add_10 : decode cX0_add 10 = .ok (.ifCond .eq 33, 3) := by decide +kernel
theorem dX0_add_13 : decode cX0_add 13 = .ok (.aload_n 0, 1) := by decide +kernel
theorem dX0_add_14 : decode cX0_add 14 = .ok (.getfield 9, 3) := by decide +kernel
theorem dX0_add_17 : decode cX0_add 17 = .ok (.aload_n 0, 1) := by decide +kernel
theorem dX0_add_18 : decode cX0_add 18 = .ok (.getfield 18, 3) := by decide +kernel
theorem dX0_add_21 : decode cX0_add 21 = .ok (.iload_n 1, 1) := by decide +kernel
theorem dX0_add_22 : decode cX0_add 22 = .ok (.iastore, 1) := by decide +kernel
theorem dX0_add_23 : decode cX0_add 23 = .ok (.aload_n 0, 1) := by decide +kernel
theorem dX0_add_24 : decode cX0_add 24 = .ok (.getfield 15, 3) := by decide +kernel
theorem dX0_add_27 : decode cX0_add 27 = .ok (.aload_n 0, 1) := by decide +kernel
theorem dX0_add_28 : decode cX0_add 28 = .ok (.getfield 18, 3) := by decide +kernel
theorem dX0_add_31 : decode cX0_add 31 = .ok (.iload_n 2, 1) := by decide +kernel
theorem dX0_add_32 : decode cX0_add 32 = .ok (.iastore, 1) := by decide +kernel
theorem dX0_add_33 : decode cX0_add 33 = .ok (.aload_n 0, 1) := by decide +kernel
theorem dX0_add_34 : decode cX0_add 34 = .ok (.dup, 1) := by decide +kernel
theorem dX0_add_35 : decode cX0_add 35 = .ok (.getfield 18, 3) := by decide +kernel
theorem dX0_add_38 : decode cX0_add 38 = .ok (.iconst 1, 1) := by decide +kernel
theorem dX0_add_39 : decode cX0_add 39 = .ok (.iadd, 1) := by decide +kernel
theorem dX0_add_40 : decode cX0_add 40 = .ok (.putfield 18, 3) := by decide +kernel
theorem dX0_add_43 : decode cX0_add 43 = .ok (.aload_n 0, 1) := by decide +kernel
theorem dX0_add_44 : decode cX0_add 44 = .ok (.getfield 18, 3) := by decide +kernel
theorem dX0_add_47 : decode cX0_add 47 = .ok (.ireturn, 1) := by decide +kernel
theorem dX0_firstWrong_0 : decode cX0_firstWrong 0 = .ok (.iconst 0, 1) := by decide +kernel
theorem dX0_firstWrong_1 : decode cX0_firstWrong 1 = .ok (.istore_n 2, 1) := by decide +kernel
theorem dX0_firstWrong_2 : decode cX0_firstWrong 2 = .ok (.iload_n 2, 1) := by decide +kernel
theorem dX0_firstWrong_3 : decode cX0_firstWrong 3 = .ok (.aload_n 0, 1) := by decide +kernel
theorem dX0_firstWrong_4 : decode cX0_firstWrong 4 = .ok (.getfield 18, 3) := by decide +kernel
theorem dX0_firstWrong_7 : decode cX0_firstWrong 7 = .ok (.if_icmp .ge 36, 3) := by decide +kernel
theorem dX0_firstWrong_10 : decode cX0_firstWrong 10 = .ok (.iload_n 2, 1) := by decide +kernel
theorem dX0_firstWrong_11 : decode cX0_firstWrong 11 = .ok (.bipush 15, 2) := by decide +kernel
theorem dX0_firstWrong_13 : decode cX0_firstWrong 13 = .ok (.if_icmp .ge 30, 3) := by decide +kernel
theorem dX0_firstWrong_16 : decode cX0_firstWrong 16 = .ok (.aload_n 1, 1) := by decide +kernel
theorem dX0_firstWrong_17 : decode cX0_firstWrong 17 = .ok (.aload_n 0, 1) := by decide +kernel
theorem dX0_firstWrong_18 : decode cX0_firstWrong 18 = .ok (.getfield 9, 3) := by decide +kernel
theorem dX0_firstWrong_21 : decode cX0_firstWrong 21 = .ok (.iload_n 2, 1) := by decide +kernel
theorem dX0_firstWrong_22 : decode cX0_firstWrong 22 = .ok (.iaload, 1) := by decide +kernel
theorem dX0_firstWrong_23 : decode cX0_firstWrong 23 = .ok (.invokevirtual 26, 3) := by decide +kernel
theorem dX0_firstWrong_26 : decode cX0_firstWrong 26 = .ok (.aload_n 0, 1) := by decide +kernel
theorem dX0_firstWrong_27 : decode cX0_firstWrong 27 = .ok (.getfield 15, 3) := by decide +kernel
theorem dX0_firstWrong_30 : decode cX0_firstWrong 30 = .ok (.iload_n 2, 1) := by decide +kernel
theorem dX0_firstWrong_31 : decode cX0_firstWrong 31 = .ok (.iaload, 1) := by decide +kernel
theorem dX0_firstWrong_32 : decode cX0_firstWrong 32 = .ok (.if_icmp .eq 5, 3) := by decide +kernel
theorem dX0_firstWrong_35 : decode cX0_firstWrong 35 = .ok (.iload_n 2, 1) := by decide +kernel
theorem dX0_firstWrong_36 : decode cX0_firstWrong 36 = .ok (.ireturn, 1) := by decide +kernel
theorem dX0_firstWrong_37 : decode cX0_firstWrong 37 = .ok (.iinc 2 1, 3) := by decide +kernel
theorem dX0_firstWrong_40 : decode cX0_firstWrong 40 = .ok (.goto (-38), 3) := by decide +kernel
theorem dX0_firstWrong_43 : decode cX0_firstWrong 43 = .ok (.iconst (-1), 1) := by decide +kernel
theorem dX0_firstWrong_44 : decode cX0_firstWrong 44 = .ok (.ireturn, 1) := by decide +kernel
theorem dX1_init_0 : decode cX1_init 0 = .ok (.aload_n 0, 1) := by decide +kernel
theorem dX1_init_1 : decode cX1_init 1 = .ok (.invokespecial 1, 3) := by decide +kernel
theorem dX1_init_4 : decode cX1_init 4 = .ok (.return_, 1) := by decide +kernel
theorem dX1_drawOf_0 : decode cX1_drawOf 0 = .ok (.aload_n 0, 1) := by decide +kernel
theorem dX1_drawOf_1 : decode cX1_drawOf 1 = .ok (.aload_n 0, 1) := by decide +kernel
theorem dX1_drawOf_2 : decode cX1_drawOf 2 = .ok (.getfield 7, 3) := by decide +kernel
theorem dX1_drawOf_5 : decode cX1_drawOf 5 = .ok (.ldc 13, 2) := by decide +kernel
theorem dX1_drawOf_7 : decode cX1_drawOf 7 = .ok (.imul, 1) := by decide +kernel
theorem dX1_drawOf_8 : decode cX1_drawOf 8 = .ok (.sipush 12345, 3) := by decide +kernel
theorem dX1_drawOf_11 : decode cX1_drawOf 11 = .ok (.iadd, 1) := by decide +kernel
theorem dX1_drawOf_12 : decode cX1_drawOf 12 = .ok (.ldc 14, 2) := by decide +kernel
theorem dX1_drawOf_14 : decode cX1_drawOf 14 = .ok (.iand, 1) := by decide +kernel
theorem dX1_drawOf_15 : decode cX1_drawOf 15 = .ok (.putfield 7, 3) := by decide +kernel
theorem dX1_drawOf_18 : decode cX1_drawOf 18 = .ok (.iload_n 1, 1) := by decide +kernel
theorem dX1_drawOf_19 : decode cX1_drawOf 19 = .ok (.ifCond .le 15, 3) := by decide +kernel
theorem dX1_drawOf_22 : decode cX1_drawOf 22 = .ok (.aload_n 0, 1) := by decide +kernel
theorem dX1_drawOf_23 : decode cX1_drawOf 23 = .ok (.getfield 7, 3) := by decide +kernel
theorem dX1_drawOf_26 : decode cX1_drawOf 26 = .ok (.ldc 15, 2) := by decide +kernel
theorem dX1_drawOf_28 : decode cX1_drawOf 28 = .ok (.idiv, 1) := by decide +kernel
theorem dX1_drawOf_29 : decode cX1_drawOf 29 = .ok (.iload_n 1, 1) := by decide +kernel
theorem dX1_drawOf_30 : decode cX1_drawOf 30 = .ok (.irem, 1) := by decide +kernel
theorem dX1_drawOf_31 : decode cX1_drawOf 31 = .ok (.goto 4, 3) := by decide +kernel
theorem dX1_drawOf_34 : decode cX1_drawOf 34 = .ok (.iconst 0, 1) := by decide +kernel
theorem dX1_drawOf_35 : decode cX1_drawOf 35 = .ok (.ireturn, 1) := by decide +kernel
theorem dX2_apart_0 : decode cX2_apart 0 = .ok (.iload_n 0, 1) := by decide +kernel
theorem dX2_apart_1 : decode cX2_apart 1 = .ok (.iload_n 1, 1) := by decide +kernel
theorem dX2_apart_2 : decode cX2_apart 2 = .ok (.ixor, 1) := by decide +kernel
theorem dX2_apart_3 : decode cX2_apart 3 = .ok (.invokestatic 9, 3) := by decide +kernel
theorem dX2_apart_6 : decode cX2_apart 6 = .ok (.ireturn, 1) := by decide +kernel
theorem dX2_apartOf_0 : decode cX2_apartOf 0 = .ok (.iload_n 1, 1) := by decide +kernel
theorem dX2_apartOf_1 : decode cX2_apartOf 1 = .ok (.aload_n 0, 1) := by decide +kernel
theorem dX2_apartOf_2 : decode cX2_apartOf 2 = .ok (.iload_n 2, 1) := by decide +kernel
theorem dX2_apartOf_3 : decode cX2_apartOf 3 = .ok (.invokevirtual 15, 3) := by decide +kernel
theorem dX2_apartOf_6 : decode cX2_apartOf 6 = .ok (.invokestatic 20, 3) := by decide +kernel
theorem dX2_apartOf_9 : decode cX2_apartOf 9 = .ok (.ireturn, 1) := by decide +kernel
theorem dX2_pick_0 : decode cX2_pick 0 = .ok (.iconst (-1), 1) := by decide +kernel
theorem dX2_pick_1 : decode cX2_pick 1 = .ok (.istore_n 3, 1) := by decide +kernel
theorem dX2_pick_2 : decode cX2_pick 2 = .ok (.bipush 9, 2) := by decide +kernel
theorem dX2_pick_4 : decode cX2_pick 4 = .ok (.istore 4, 2) := by decide +kernel
theorem dX2_pick_6 : decode cX2_pick 6 = .ok (.iconst 0, 1) := by decide +kernel
theorem dX2_pick_7 : decode cX2_pick 7 = .ok (.istore 5, 2) := by decide +kernel
theorem dX2_pick_9 : decode cX2_pick 9 = .ok (.iload 5, 2) := by decide +kernel
theorem dX2_pick_11 : decode cX2_pick 11 = .ok (.aload_n 0, 1) := by decide +kernel
theorem dX2_pick_12 : decode cX2_pick 12 = .ok (.getfield 26, 3) := by decide +kernel
theorem dX2_pick_15 : decode cX2_pick 15 = .ok (.if_icmp .ge 42, 3) := by decide +kernel
theorem dX2_pick_18 : decode cX2_pick 18 = .ok (.iload_n 2, 1) := by decide +kernel
theorem dX2_pick_19 : decode cX2_pick 19 = .ok (.iload 5, 2) := by decide +kernel
theorem dX2_pick_21 : decode cX2_pick 21 = .ok (.invokestatic 30, 3) := by decide +kernel
theorem dX2_pick_24 : decode cX2_pick 24 = .ok (.ifCond .eq 27, 3) := by decide +kernel
theorem dX2_pick_27 : decode cX2_pick 27 = .ok (.aload_n 0, 1) := by decide +kernel
theorem dX2_pick_28 : decode cX2_pick 28 = .ok (.iload_n 1, 1) := by decide +kernel
theorem dX2_pick_29 : decode cX2_pick 29 = .ok (.iload 5, 2) := by decide +kernel
theorem dX2_pick_31 : decode cX2_pick 31 = .ok (.invokestatic 34, 3) := by decide +kernel
theorem dX2_pick_34 : decode cX2_pick 34 = .ok (.iload 4, 2) := by decide +kernel
theorem dX2_pick_36 : decode cX2_pick 36 = .ok (.if_icmp .ge 15, 3) := by decide +kernel
theorem dX2_pick_39 : decode cX2_pick 39 = .ok (.aload_n 0, 1) := by decide +kernel
theorem dX2_pick_40 : decode cX2_pick 40 = .ok (.iload_n 1, 1) := by decide +kernel
theorem dX2_pick_41 : decode cX2_pick 41 = .ok (.iload 5, 2) := by decide +kernel
theorem dX2_pick_43 : decode cX2_pick 43 = .ok (.invokestatic 34, 3) := by decide +kernel
theorem dX2_pick_46 : decode cX2_pick 46 = .ok (.istore 4, 2) := by decide +kernel
theorem dX2_pick_48 : decode cX2_pick 48 = .ok (.iload 5, 2) := by decide +kernel
theorem dX2_pick_50 : decode cX2_pick 50 = .ok (.istore_n 3, 1) := by decide +kernel
theorem dX2_pick_51 : decode cX2_pick 51 = .ok (.iinc 5 1, 3) := by decide +kernel
theorem dX2_pick_54 : decode cX2_pick 54 = .ok (.goto (-45), 3) := by decide +kernel
theorem dX2_pick_57 : decode cX2_pick 57 = .ok (.iload_n 3, 1) := by decide +kernel
theorem dX2_pick_58 : decode cX2_pick 58 = .ok (.ireturn, 1) := by decide +kernel
theorem dX2_sureness_0 : decode cX2_sureness 0 = .ok (.aload_n 0, 1) := by decide +kernel
theorem dX2_sureness_1 : decode cX2_sureness 1 = .ok (.iload_n 1, 1) := by decide +kernel
theorem dX2_sureness_2 : decode cX2_sureness 2 = .ok (.iload_n 2, 1) := by decide +kernel
theorem dX2_sureness_3 : decode cX2_sureness 3 = .ok (.iconst 1, 1) := by decide +kernel
theorem dX2_sureness_4 : decode cX2_sureness 4 = .ok (.iload_n 3, 1) := by decide +kernel
theorem dX2_sureness_5 : decode cX2_sureness 5 = .ok (.ishl, 1) := by decide +kernel
theorem dX2_sureness_6 : decode cX2_sureness 6 = .ok (.iconst (-1), 1) := by decide +kernel
theorem dX2_sureness_7 : decode cX2_sureness 7 = .ok (.ixor, 1) := by decide +kernel
theorem dX2_sureness_8 : decode cX2_sureness 8 = .ok (.iand, 1) := by decide +kernel
theorem dX2_sureness_9 : decode cX2_sureness 9 = .ok (.invokestatic 38, 3) := by decide +kernel
theorem dX2_sureness_12 : decode cX2_sureness 12 = .ok (.istore 4, 2) := by decide +kernel
theorem dX2_sureness_14 : decode cX2_sureness 14 = .ok (.aload_n 0, 1) := by decide +kernel
theorem dX2_sureness_15 : decode cX2_sureness 15 = .ok (.iload_n 1, 1) := by decide +kernel
theorem dX2_sureness_16 : decode cX2_sureness 16 = .ok (.iload_n 3, 1) := by decide +kernel
theorem dX2_sureness_17 : decode cX2_sureness 17 = .ok (.aload_n 0, 1) := by decide +kernel
theorem dX2_sureness_18 : decode cX2_sureness 18 = .ok (.iload_n 3, 1) := by decide +kernel
theorem dX2_sureness_19 : decode cX2_sureness 19 = .ok (.invokevirtual 15, 3) := by decide +kernel
theorem dX2_sureness_22 : decode cX2_sureness 22 = .ok (.iload 4, 2) := by decide +kernel
theorem dX2_sureness_24 : decode cX2_sureness 24 = .ok (.invokestatic 41, 3) := by decide +kernel
theorem dX2_sureness_27 : decode cX2_sureness 27 = .ok (.ireturn, 1) := by decide +kernel
theorem dX2_lead_0 : decode cX2_lead 0 = .ok (.iload_n 1, 1) := by decide +kernel
theorem dX2_lead_1 : decode cX2_lead 1 = .ok (.iload_n 3, 1) := by decide +kernel
theorem dX2_lead_2 : decode cX2_lead 2 = .ok (.invokestatic 20, 3) := by decide +kernel
theorem dX2_lead_5 : decode cX2_lead 5 = .ok (.istore 5, 2) := by decide +kernel
theorem dX2_lead_7 : decode cX2_lead 7 = .ok (.aload_n 0, 1) := by decide +kernel
theorem dX2_lead_8 : decode cX2_lead 8 = .ok (.iload_n 1, 1) := by decide +kernel
theorem dX2_lead_9 : decode cX2_lead 9 = .ok (.iload 4, 2) := by decide +kernel
theorem dX2_lead_11 : decode cX2_lead 11 = .ok (.invokestatic 34, 3) := by decide +kernel
theorem dX2_lead_14 : decode cX2_lead 14 = .ok (.istore 6, 2) := by decide +kernel
theorem dX2_lead_16 : decode cX2_lead 16 = .ok (.iload 5, 2) := by decide +kernel
theorem dX2_lead_18 : decode cX2_lead 18 = .ok (.iload 6, 2) := by decide +kernel
theorem dX2_lead_20 : decode cX2_lead 20 = .ok (.if_icmp .lt 16, 3) := by decide +kernel
theorem dX2_lead_23 : decode cX2_lead 23 = .ok (.iload 5, 2) := by decide +kernel
theorem dX2_lead_25 : decode cX2_lead 25 = .ok (.iload 6, 2) := by decide +kernel
theorem dX2_lead_27 : decode cX2_lead 27 = .ok (.if_icmp .ne 13, 3) := by decide +kernel
theorem dX2_lead_30 : decode cX2_lead 30 = .ok (.iload_n 2, 1) := by decide +kernel
theorem dX2_lead_31 : decode cX2_lead 31 = .ok (.iload 4, 2) := by decide +kernel
theorem dX2_lead_33 : decode cX2_lead 33 = .ok (.if_icmp .ge 7, 3) := by decide +kernel
theorem dX2_lead_36 : decode cX2_lead 36 = .ok (.iconst 1, 1) := by decide +kernel
theorem dX2_lead_37 : decode cX2_lead 37 = .ok (.goto 4, 3) := by decide +kernel
theorem dX2_lead_40 : decode cX2_lead 40 = .ok (.iconst 0, 1) := by decide +kernel
theorem dX2_lead_41 : decode cX2_lead 41 = .ok (.istore 7, 2) := by decide +kernel
theorem dX2_lead_43 : decode cX2_lead 43 = .ok (.iload 7, 2) := by decide +kernel
theorem dX2_lead_45 : decode cX2_lead 45 = .ok (.ifCond .eq 13, 3) := by decide +kernel
theorem dX2_lead_48 : decode cX2_lead 48 = .ok (.iconst 1, 1) := by decide +kernel
theorem dX2_lead_49 : decode cX2_lead 49 = .ok (.iload 6, 2) := by decide +kernel
theorem dX2_lead_51 : decode cX2_lead 51 = .ok (.iadd, 1) := by decide +kernel
theorem dX2_lead_52 : decode cX2_lead 52 = .ok (.iload 5, 2) := by decide +kernel
theorem dX2_lead_54 : decode cX2_lead 54 = .ok (.isub, 1) := by decide +kernel
theorem dX2_lead_55 : decode cX2_lead 55 = .ok (.goto 4, 3) := by decide +kernel
theorem dX2_lead_58 : decode cX2_lead 58 = .ok (.iconst 0, 1) := by decide +kernel
theorem dX2_lead_59 : decode cX2_lead 59 = .ok (.ireturn, 1) := by decide +kernel
theorem dX2_oddsOf_0 : decode cX2_oddsOf 0 = .ok (.iconst 0, 1) := by decide +kernel
theorem dX2_oddsOf_1 : decode cX2_oddsOf 1 = .ok (.istore 4, 2) := by decide +kernel
theorem dX2_oddsOf_3 : decode cX2_oddsOf 3 = .ok (.iconst 0, 1) := by decide +kernel
theorem dX2_oddsOf_4 : decode cX2_oddsOf 4 = .ok (.istore 5, 2) := by decide +kernel
theorem dX2_oddsOf_6 : decode cX2_oddsOf 6 = .ok (.iload 5, 2) := by decide +kernel
theorem dX2_oddsOf_8 : decode cX2_oddsOf 8 = .ok (.aload_n 0, 1) := by decide +kernel
theorem dX2_oddsOf_9 : decode cX2_oddsOf 9 = .ok (.getfield 26, 3) := by decide +kernel
theorem dX2_oddsOf_12 : decode cX2_oddsOf 12 = .ok (.if_icmp .ge 22, 3) := by decide +kernel
theorem dX2_oddsOf_15 : decode cX2_oddsOf 15 = .ok (.iload 4, 2) := by decide +kernel
theorem dX2_oddsOf_17 : decode cX2_oddsOf 17 = .ok (.aload_n 0, 1) := by decide +kernel
theorem dX2_oddsOf_18 : decode cX2_oddsOf 18 = .ok (.iload_n 1, 1) := by decide +kernel
theorem dX2_oddsOf_19 : decode cX2_oddsOf 19 = .ok (.iload_n 2, 1) := by decide +kernel
theorem dX2_oddsOf_20 : decode cX2_oddsOf 20 = .ok (.iload 5, 2) := by decide +kernel
theorem dX2_oddsOf_22 : decode cX2_oddsOf 22 = .ok (.invokestatic 45, 3) := by decide +kernel
theorem dX2_oddsOf_25 : decode cX2_oddsOf 25 = .ok (.iadd, 1) := by decide +kernel
theorem dX2_oddsOf_26 : decode cX2_oddsOf 26 = .ok (.istore 4, 2) := by decide +kernel
theorem dX2_oddsOf_28 : decode cX2_oddsOf 28 = .ok (.iinc 5 1, 3) := by decide +kernel
theorem dX2_oddsOf_31 : decode cX2_oddsOf 31 = .ok (.goto (-25), 3) := by decide +kernel
theorem dX2_oddsOf_34 : decode cX2_oddsOf 34 = .ok (.iload 4, 2) := by decide +kernel
theorem dX2_oddsOf_36 : decode cX2_oddsOf 36 = .ok (.ifCond .le 19, 3) := by decide +kernel
theorem dX2_oddsOf_39 : decode cX2_oddsOf 39 = .ok (.aload_n 0, 1) := by decide +kernel
theorem dX2_oddsOf_40 : decode cX2_oddsOf 40 = .ok (.iload_n 1, 1) := by decide +kernel
theorem dX2_oddsOf_41 : decode cX2_oddsOf 41 = .ok (.iload_n 2, 1) := by decide +kernel
theorem dX2_oddsOf_42 : decode cX2_oddsOf 42 = .ok (.iload_n 3, 1) := by decide +kernel
theorem dX2_oddsOf_43 : decode cX2_oddsOf 43 = .ok (.invokestatic 45, 3) := by decide +kernel
theorem dX2_oddsOf_46 : decode cX2_oddsOf 46 = .ok (.ldc 49, 2) := by decide +kernel
theorem dX2_oddsOf_48 : decode cX2_oddsOf 48 = .ok (.imul, 1) := by decide +kernel
theorem dX2_oddsOf_49 : decode cX2_oddsOf 49 = .ok (.iload 4, 2) := by decide +kernel
theorem dX2_oddsOf_51 : decode cX2_oddsOf 51 = .ok (.idiv, 1) := by decide +kernel
theorem dX2_oddsOf_52 : decode cX2_oddsOf 52 = .ok (.goto 4, 3) := by decide +kernel
theorem dX2_oddsOf_55 : decode cX2_oddsOf 55 = .ok (.iconst 0, 1) := by decide +kernel
theorem dX2_oddsOf_56 : decode cX2_oddsOf 56 = .ok (.ireturn, 1) := by decide +kernel
theorem dX2_weightIn_0 : decode cX2_weightIn 0 = .ok (.iload_n 2, 1) := by decide +kernel
theorem dX2_weightIn_1 : decode cX2_weightIn 1 = .ok (.iload_n 3, 1) := by decide +kernel
theorem dX2_weightIn_2 : decode cX2_weightIn 2 = .ok (.invokestatic 30, 3) := by decide +kernel
theorem dX2_weightIn_5 : decode cX2_weightIn 5 = .ok (.ifCond .eq 15, 3) := by decide +kernel
theorem dX2_weightIn_8 : decode cX2_weightIn 8 = .ok (.bipush 9, 2) := by decide +kernel
theorem dX2_weightIn_10 : decode cX2_weightIn 10 = .ok (.aload_n 0, 1) := by decide +kernel
theorem dX2_weightIn_11 : decode cX2_weightIn 11 = .ok (.iload_n 1, 1) := by decide +kernel
theorem dX2_weightIn_12 : decode cX2_weightIn 12 = .ok (.iload_n 3, 1) := by decide +kernel
theorem dX2_weightIn_13 : decode cX2_weightIn 13 = .ok (.invokestatic 34, 3) := by decide +kernel
theorem dX2_weightIn_16 : decode cX2_weightIn 16 = .ok (.isub, 1) := by decide +kernel
theorem dX2_weightIn_17 : decode cX2_weightIn 17 = .ok (.goto 4, 3) := by decide +kernel
theorem dX2_weightIn_20 : decode cX2_weightIn 20 = .ok (.iconst 0, 1) := by decide +kernel
theorem dX2_weightIn_21 : decode cX2_weightIn 21 = .ok (.ireturn, 1) := by decide +kernel
theorem dX2_spread_0 : decode cX2_spread 0 = .ok (.bipush 8, 2) := by decide +kernel
theorem dX2_spread_2 : decode cX2_spread 2 = .ok (.istore_n 3, 1) := by decide +kernel
theorem dX2_spread_3 : decode cX2_spread 3 = .ok (.iconst 0, 1) := by decide +kernel
theorem dX2_spread_4 : decode cX2_spread 4 = .ok (.istore 4, 2) := by decide +kernel
theorem dX2_spread_6 : decode cX2_spread 6 = .ok (.iconst 0, 1) := by decide +kernel
theorem dX2_spread_7 : decode cX2_spread 7 = .ok (.istore 5, 2) := by decide +kernel
theorem dX2_spread_9 : decode cX2_spread 9 = .ok (.iload 5, 2) := by decide +kernel
theorem dX2_spread_11 : decode cX2_spread 11 = .ok (.aload_n 0, 1) := by decide +kernel
theorem dX2_spread_12 : decode cX2_spread 12 = .ok (.getfield 26, 3) := by decide +kernel
theorem dX2_spread_15 : decode cX2_spread 15 = .ok (.if_icmp .ge 44, 3) := by decide +kernel
theorem dX2_spread_18 : decode cX2_spread 18 = .ok (.iload_n 2, 1) := by decide +kernel
theorem dX2_spread_19 : decode cX2_spread 19 = .ok (.iload 5, 2) := by decide +kernel
theorem dX2_spread_21 : decode cX2_spread 21 = .ok (.invokestatic 30, 3) := by decide +kernel
theorem dX2_spread_24 : decode cX2_spread 24 = .ok (.ifCond .eq 29, 3) := by decide +kernel
theorem dX2_spread_27 : decode cX2_spread 27 = .ok (.iload_n 3, 1) := by decide +kernel
theorem dX2_spread_28 : decode cX2_spread 28 = .ok (.aload_n 0, 1) := by decide +kernel
theorem dX2_spread_29 : decode cX2_spread 29 = .ok (.iload_n 1, 1) := by decide +kernel
theorem dX2_spread_30 : decode cX2_spread 30 = .ok (.iload 5, 2) := by decide +kernel
theorem dX2_spread_32 : decode cX2_spread 32 = .ok (.invokestatic 34, 3) := by decide +kernel
theorem dX2_spread_35 : decode cX2_spread 35 = .ok (.invokestatic 50, 3) := by decide +kernel
theorem dX2_spread_38 : decode cX2_spread 38 = .ok (.istore_n 3, 1) := by decide +kernel
theorem dX2_spread_39 : decode cX2_spread 39 = .ok (.iload 4, 2) := by decide +kernel
theorem dX2_spread_41 : decode cX2_spread 41 = .ok (.aload_n 0, 1) := by decide +kernel
theorem dX2_spread_42 : decode cX2_spread 42 = .ok (.iload_n 1, 1) := by decide +kernel
theorem dX2_spread_43 : decode cX2_spread 43 = .ok (.iload 5, 2) := by decide +kernel
theorem dX2_spread_45 : decode cX2_spread 45 = .ok (.invokestatic 34, 3) := by decide +kernel
theorem dX2_spread_48 : decode cX2_spread 48 = .ok (.invokestatic 55, 3) := by decide +kernel
theorem dX2_spread_51 : decode cX2_spread 51 = .ok (.istore 4, 2) := by decide +kernel
theorem dX2_spread_53 : decode cX2_spread 53 = .ok (.iinc 5 1, 3) := by decide +kernel
theorem dX2_spread_56 : decode cX2_spread 56 = .ok (.goto (-47), 3) := by decide +kernel
theorem dX2_spread_59 : decode cX2_spread 59 = .ok (.iload 4, 2) := by decide +kernel
theorem dX2_spread_61 : decode cX2_spread 61 = .ok (.iload_n 3, 1) := by decide +kernel
theorem dX2_spread_62 : decode cX2_spread 62 = .ok (.isub, 1) := by decide +kernel
theorem dX2_spread_63 : decode cX2_spread 63 = .ok (.ireturn, 1) := by decide +kernel
theorem dX3_init_0 : decode cX3_init 0 = .ok (.aload_n 0, 1) := by decide +kernel
theorem dX3_init_1 : decode cX3_init 1 = .ok (.invokespecial 1, 3) := by decide +kernel
theorem dX3_init_4 : decode cX3_init 4 = .ok (.aload_n 0, 1) := by decide +kernel
theorem dX3_init_5 : decode cX3_init 5 = .ok (.new 7, 3) := by decide +kernel
theorem dX3_init_8 : decode cX3_init 8 = .ok (.dup, 1) := by decide +kernel
theorem dX3_init_9 : decode cX3_init 9 = .ok (.invokespecial 9, 3) := by decide +kernel
theorem dX3_init_12 : decode cX3_init 12 = .ok (.putfield 10, 3) := by decide +kernel
theorem dX3_init_15 : decode cX3_init 15 = .ok (.return_, 1) := by decide +kernel
theorem dX3_take_0 : decode cX3_take 0 = .ok (.aload_n 0, 1) := by decide +kernel
theorem dX3_take_1 : decode cX3_take 1 = .ok (.getfield 10, 3) := by decide +kernel
theorem dX3_take_4 : decode cX3_take 4 = .ok (.aload_n 1, 1) := by decide +kernel
theorem dX3_take_5 : decode cX3_take 5 = .ok (.invokevirtual 16, 3) := by decide +kernel
theorem dX3_take_8 : decode cX3_take 8 = .ok (.aload_n 0, 1) := by decide +kernel
theorem dX3_take_9 : decode cX3_take 9 = .ok (.iload_n 2, 1) := by decide +kernel
theorem dX3_take_10 : decode cX3_take 10 = .ok (.putfield 20, 3) := by decide +kernel
theorem dX3_take_13 : decode cX3_take 13 = .ok (.aload_n 0, 1) := by decide +kernel
theorem dX3_take_14 : decode cX3_take 14 = .ok (.iconst 1, 1) := by decide +kernel
theorem dX3_take_15 : decode cX3_take 15 = .ok (.putfield 24, 3) := by decide +kernel
theorem dX3_take_18 : decode cX3_take 18 = .ok (.return_, 1) := by decide +kernel
theorem dX3_drop_0 : decode cX3_drop 0 = .ok (.aload_n 0, 1) := by decide +kernel
theorem dX3_drop_1 : decode cX3_drop 1 = .ok (.iconst 0, 1) := by decide +kernel
theorem dX3_drop_2 : decode cX3_drop 2 = .ok (.putfield 24, 3) := by decide +kernel
theorem dX3_drop_5 : decode cX3_drop 5 = .ok (.return_, 1) := by decide +kernel
theorem dX4_init_0 : decode cX4_init 0 = .ok (.aload_n 0, 1) := by decide +kernel
theorem dX4_init_1 : decode cX4_init 1 = .ok (.invokespecial 3, 3) := by decide +kernel
theorem dX4_init_4 : decode cX4_init 4 = .ok (.aload_n 0, 1) := by decide +kernel
theorem dX4_init_5 : decode cX4_init 5 = .ok (.bipush 20, 2) := by decide +kernel
theorem dX4_init_7 : decode cX4_init 7 = .ok (.anewarray 9, 3) := by decide +kernel
theorem dX4_init_10 : decode cX4_init 10 = .ok (.putfield 11, 3) := by decide +kernel
theorem dX4_init_13 : decode cX4_init 13 = .ok (.iconst 0, 1) := by decide +kernel
theorem dX4_init_14 : decode cX4_init 14 = .ok (.istore_n 1, 1) := by decide +kernel
theorem dX4_init_15 : decode cX4_init 15 = .ok (.iload_n 1, 1) := by decide +kernel
theorem dX4_init_16 : decode cX4_init 16 = .ok (.bipush 20, 2) := by decide +kernel
theorem dX4_init_18 : decode cX4_init 18 = .ok (.if_icmp .ge 22, 3) := by decide +kernel
theorem dX4_init_21 : decode cX4_init 21 = .ok (.aload_n 0, 1) := by decide +kernel
theorem dX4_init_22 : decode cX4_init 22 = .ok (.getfield 11, 3) := by decide +kernel
theorem dX4_init_25 : decode cX4_init 25 = .ok (.iload_n 1, 1) := by decide +kernel
theorem dX4_init_26 : decode cX4_init 26 = .ok (.new 9, 3) := by decide +kernel
theorem dX4_init_29 : decode cX4_init 29 = .ok (.dup, 1) := by decide +kernel
theorem dX4_init_30 : decode cX4_init 30 = .ok (.invokespecial 17, 3) := by decide +kernel
theorem dX4_init_33 : decode cX4_init 33 = .ok (.aastore, 1) := by decide +kernel
theorem dX4_init_34 : decode cX4_init 34 = .ok (.iinc 1 1, 3) := by decide +kernel
theorem dX4_init_37 : decode cX4_init 37 = .ok (.goto (-22), 3) := by decide +kernel
theorem dX4_init_40 : decode cX4_init 40 = .ok (.return_, 1) := by decide +kernel
theorem dX4_empty_0 : decode cX4_empty 0 = .ok (.aload_n 0, 1) := by decide +kernel
theorem dX4_empty_1 : decode cX4_empty 1 = .ok (.iconst 0, 1) := by decide +kernel
theorem dX4_empty_2 : decode cX4_empty 2 = .ok (.putfield 18, 3) := by decide +kernel
theorem dX4_empty_5 : decode cX4_empty 5 = .ok (.return_, 1) := by decide +kernel
theorem dX4_push_0 : decode cX4_push 0 = .ok (.aload_n 0, 1) := by decide +kernel
theorem dX4_push_1 : decode cX4_push 1 = .ok (.aload_n 0, 1) := by decide +kernel
theorem dX4_push_2 : decode cX4_push 2 = .ok (.getfield 22, 3) := by decide +kernel
theorem dX4_push_5 : decode cX4_push 5 = .ok (.invokevirtual 25, 3) := by decide +kernel
theorem dX4_push_8 : decode cX4_push 8 = .ok (.astore_n 2, 1) := by decide +kernel
theorem dX4_push_9 : decode cX4_push 9 = .ok (.aload_n 2, 1) := by decide +kernel
theorem dX4_push_10 : decode cX4_push 10 = .ok (.ifnull 36, 3) := by decide +kernel
theorem dX4_push_13 : decode cX4_push 13 = .ok (.aload_n 2, 1) := by decide +kernel
theorem dX4_push_14 : decode cX4_push 14 = .ok (.aload_n 1, 1) := by decide +kernel
theorem dX4_push_15 : decode cX4_push 15 = .ok (.invokevirtual 29, 3) := by decide +kernel
theorem dX4_push_18 : decode cX4_push 18 = .ok (.aload_n 0, 1) := by decide +kernel
theorem dX4_push_19 : decode cX4_push 19 = .ok (.aload_n 0, 1) := by decide +kernel
theorem dX4_push_20 : decode cX4_push 20 = .ok (.getfield 22, 3) := by decide +kernel
theorem dX4_push_23 : decode cX4_push 23 = .ok (.iconst 1, 1) := by decide +kernel
theorem dX4_push_24 : decode cX4_push 24 = .ok (.iadd, 1) := by decide +kernel
theorem dX4_push_25 : decode cX4_push 25 = .ok (.bipush 20, 2) := by decide +kernel
theorem dX4_push_27 : decode cX4_push 27 = .ok (.irem, 1) := by decide +kernel
theorem dX4_push_28 : decode cX4_push 28 = .ok (.putfield 22, 3) := by decide +kernel
theorem dX4_push_31 : decode cX4_push 31 = .ok (.aload_n 0, 1) := by decide +kernel
theorem dX4_push_32 : decode cX4_push 32 = .ok (.aload_n 0, 1) := by decide +kernel
theorem dX4_push_33 : decode cX4_push 33 = .ok (.getfield 18, 3) := by decide +kernel
theorem dX4_push_36 : decode cX4_push 36 = .ok (.iconst 1, 1) := by decide +kernel
theorem dX4_push_37 : decode cX4_push 37 = .ok (.iadd, 1) := by decide +kernel
theorem dX4_push_38 : decode cX4_push 38 = .ok (.bipush 20, 2) := by decide +kernel
theorem dX4_push_40 : decode cX4_push 40 = .ok (.invokestatic 33, 3) := by decide +kernel
theorem dX4_push_43 : decode cX4_push 43 = .ok (.putfield 18, 3) := by decide +kernel
theorem dX4_push_46 : decode cX4_push 46 = .ok (.return_, 1) := by decide +kernel
theorem dX4_popInto_0 : decode cX4_popInto 0 = .ok (.aload_n 0, 1) := by decide +kernel
theorem dX4_popInto_1 : decode cX4_popInto 1 = .ok (.getfield 22, 3) := by decide +kernel
theorem dX4_popInto_4 : decode cX4_popInto 4 = .ok (.bipush 20, 2) := by decide +kernel
theorem dX4_popInto_6 : decode cX4_popInto 6 = .ok (.iadd, 1) := by decide +kernel
theorem dX4_popInto_7 : decode cX4_popInto 7 = .ok (.iconst 1, 1) := by decide +kernel
theorem dX4_popInto_8 : decode cX4_popInto 8 = .ok (.isub, 1) := by decide +kernel
theorem dX4_popInto_9 : decode cX4_popInto 9 = .ok (.bipush 20, 2) := by decide +kernel
theorem dX4_popInto_11 : decode cX4_popInto 11 = .ok (.irem, 1) := by decide +kernel
theorem dX4_popInto_12 : decode cX4_popInto 12 = .ok (.istore_n 2, 1) := by decide +kernel
theorem dX4_popInto_13 : decode cX4_popInto 13 = .ok (.aload_n 0, 1) := by decide +kernel
theorem dX4_popInto_14 : decode cX4_popInto 14 = .ok (.iload_n 2, 1) := by decide +kernel
theorem dX4_popInto_15 : decode cX4_popInto 15 = .ok (.invokevirtual 25, 3) := by decide +kernel
theorem dX4_popInto_18 : decode cX4_popInto 18 = .ok (.astore_n 3, 1) := by decide +kernel
theorem dX4_popInto_19 : decode cX4_popInto 19 = .ok (.aload_n 0, 1) := by decide +kernel
theorem dX4_popInto_20 : decode cX4_popInto 20 = .ok (.getfield 18, 3) := by decide +kernel
theorem dX4_popInto_23 : decode cX4_popInto 23 = .ok (.ifCond .eq 7, 3) := by decide +kernel
theorem dX4_popInto_26 : decode cX4_popInto 26 = .ok (.aload_n 3, 1) := by decide +kernel
theorem dX4_popInto_27 : decode cX4_popInto 27 = .ok (.ifnonnull 5, 3) := by decide +kernel
theorem dX4_popInto_30 : decode cX4_popInto 30 = .ok (.iconst 0, 1) := by decide +kernel
theorem dX4_popInto_31 : decode cX4_popInto 31 = .ok (.ireturn, 1) := by decide +kernel
theorem dX4_popInto_32 : decode cX4_popInto 32 = .ok (.aload_n 1, 1) := by decide +kernel
theorem dX4_popInto_33 : decode cX4_popInto 33 = .ok (.aload_n 3, 1) := by decide +kernel
theorem dX4_popInto_34 : decode cX4_popInto 34 = .ok (.invokevirtual 29, 3) := by decide +kernel
theorem dX4_popInto_37 : decode cX4_popInto 37 = .ok (.aload_n 0, 1) := by decide +kernel
theorem dX4_popInto_38 : decode cX4_popInto 38 = .ok (.iload_n 2, 1) := by decide +kernel
theorem dX4_popInto_39 : decode cX4_popInto 39 = .ok (.putfield 22, 3) := by decide +kernel
theorem dX4_popInto_42 : decode cX4_popInto 42 = .ok (.aload_n 0, 1) := by decide +kernel
theorem dX4_popInto_43 : decode cX4_popInto 43 = .ok (.dup, 1) := by decide +kernel
theorem dX4_popInto_44 : decode cX4_popInto 44 = .ok (.getfield 18, 3) := by decide +kernel
theorem dX4_popInto_47 : decode cX4_popInto 47 = .ok (.iconst 1, 1) := by decide +kernel
theorem dX4_popInto_48 : decode cX4_popInto 48 = .ok (.isub, 1) := by decide +kernel
theorem dX4_popInto_49 : decode cX4_popInto 49 = .ok (.putfield 18, 3) := by decide +kernel
theorem dX4_popInto_52 : decode cX4_popInto 52 = .ok (.iconst 1, 1) := by decide +kernel
theorem dX4_popInto_53 : decode cX4_popInto 53 = .ok (.ireturn, 1) := by decide +kernel
theorem dX4_stateAt_0 : decode cX4_stateAt 0 = .ok (.iload_n 1, 1) := by decide +kernel
theorem dX4_stateAt_1 : decode cX4_stateAt 1 = .ok (.iconst 0, 1) := by decide +kernel
theorem dX4_stateAt_2 : decode cX4_stateAt 2 = .ok (.bipush 19, 2) := by decide +kernel
theorem dX4_stateAt_4 : decode cX4_stateAt 4 = .ok (.invokestatic 39, 3) := by decide +kernel
theorem dX4_stateAt_7 : decode cX4_stateAt 7 = .ok (.ifCond .eq 12, 3) := by decide +kernel
theorem dX4_stateAt_10 : decode cX4_stateAt 10 = .ok (.aload_n 0, 1) := by decide +kernel
theorem dX4_stateAt_11 : decode cX4_stateAt 11 = .ok (.getfield 11, 3) := by decide +kernel
theorem dX4_stateAt_14 : decode cX4_stateAt 14 = .ok (.iload_n 1, 1) := by decide +kernel
theorem dX4_stateAt_15 : decode cX4_stateAt 15 = .ok (.aaload, 1) := by decide +kernel
theorem dX4_stateAt_16 : decode cX4_stateAt 16 = .ok (.goto 4, 3) := by decide +kernel
theorem dX4_stateAt_19 : decode cX4_stateAt 19 = .ok (.aconst_null, 1) := by decide +kernel
theorem dX4_stateAt_20 : decode cX4_stateAt 20 = .ok (.areturn, 1) := by decide +kernel
theorem dX5_init_0 : decode cX5_init 0 = .ok (.aload_n 0, 1) := by decide +kernel
theorem dX5_init_1 : decode cX5_init 1 = .ok (.invokespecial 3, 3) := by decide +kernel
theorem dX5_init_4 : decode cX5_init 4 = .ok (.aload_n 0, 1) := by decide +kernel
theorem dX5_init_5 : decode cX5_init 5 = .ok (.bipush 8, 2) := by decide +kernel
theorem dX5_init_7 : decode cX5_init 7 = .ok (.newarray .int, 2) := by decide +kernel
theorem dX5_init_9 : decode cX5_init 9 = .ok (.putfield 9, 3) := by decide +kernel
theorem dX5_init_12 : decode cX5_init 12 = .ok (.aload_n 0, 1) := by decide +kernel
theorem dX5_init_13 : decode cX5_init 13 = .ok (.bipush 8, 2) := by decide +kernel
theorem dX5_init_15 : decode cX5_init 15 = .ok (.newarray .int, 2) := by decide +kernel
theorem dX5_init_17 : decode cX5_init 17 = .ok (.putfield 15, 3) := by decide +kernel
theorem dX5_init_20 : decode cX5_init 20 = .ok (.aload_n 0, 1) := by decide +kernel
theorem dX5_init_21 : decode cX5_init 21 = .ok (.bipush 8, 2) := by decide +kernel
theorem dX5_init_23 : decode cX5_init 23 = .ok (.newarray .int, 2) := by decide +kernel
theorem dX5_init_25 : decode cX5_init 25 = .ok (.putfield 18, 3) := by decide +kernel
theorem dX5_init_28 : decode cX5_init 28 = .ok (.aload_n 0, 1) := by decide +kernel
theorem dX5_init_29 : decode cX5_init 29 = .ok (.bipush 64, 2) := by decide +kernel
theorem dX5_init_31 : decode cX5_init 31 = .ok (.newarray .int, 2) := by decide +kernel
theorem dX5_init_33 : decode cX5_init 33 = .ok (.putfield 21, 3) := by decide +kernel
theorem dX5_init_36 : decode cX5_init 36 = .ok (.aload_n 0, 1) := by decide +kernel
theorem dX5_init_37 : decode cX5_init 37 = .ok (.getfield 21, 3) := by decide +kernel
theorem dX5_init_40 : decode cX5_init 40 = .ok (.iconst (-1), 1) := by decide +kernel
theorem dX5_init_41 : decode cX5_init 41 = .ok (.invokestatic 24, 3) := by decide +kernel
theorem dX5_init_44 : decode cX5_init 44 = .ok (.return_, 1) := by decide +kernel
theorem dX5_empty_0 : decode cX5_empty 0 = .ok (.aload_n 0, 1) := by decide +kernel
theorem dX5_empty_1 : decode cX5_empty 1 = .ok (.iconst 0, 1) := by decide +kernel
theorem dX5_empty_2 : decode cX5_empty 2 = .ok (.putfield 30, 3) := by decide +kernel
theorem dX5_empty_5 : decode cX5_empty 5 = .ok (.aload_n 0, 1) := by decide +kernel
theorem dX5_empty_6 : decode cX5_empty 6 = .ok (.iconst 0, 1) := by decide +kernel
theorem dX5_empty_7 : decode cX5_empty 7 = .ok (.putfield 34, 3) := by decide +kernel
theorem dX5_empty_10 : decode cX5_empty 10 = .ok (.aload_n 0, 1) := by decide +kernel
theorem dX5_empty_11 : decode cX5_empty 11 = .ok (.getfield 21, 3) := by decide +kernel
theorem dX5_empty_14 : decode cX5_empty 14 = .ok (.iconst (-1), 1) := by decide +kernel
theorem dX5_empty_15 : decode cX5_empty 15 = .ok (.invokestatic 24, 3) := by decide +kernel
theorem dX5_empty_18 : decode cX5_empty 18 = .ok (.return_, 1) := by decide +kernel
theorem dX5_become_0 : decode cX5_become 0 = .ok (.aload_n 1, 1) := by decide +kernel
theorem dX5_become_1 : decode cX5_become 1 = .ok (.getfield 9, 3) := by decide +kernel
theorem dX5_become_4 : decode cX5_become 4 = .ok (.iconst 0, 1) := by decide +kernel
theorem dX5_become_5 : decode cX5_become 5 = .ok (.aload_n 0, 1) := by decide +kernel
theorem dX5_become_6 : decode cX5_become 6 = .ok (.getfield 9, 3) := by decide +kernel
theorem dX5_become_9 : decode cX5_become 9 = .ok (.iconst 0, 1) := by decide +kernel
theorem dX5_become_10 : decode cX5_become 10 = .ok (.bipush 8, 2) := by decide +kernel
theorem dX5_become_12 : decode cX5_become 12 = .ok (.invokestatic 37, 3) := by decide +kernel
theorem dX5_become_15 : decode cX5_become 15 = .ok (.aload_n 1, 1) := by decide +kernel
theorem dX5_become_16 : decode cX5_become 16 = .ok (.getfield 15, 3) := by decide +kernel
theorem dX5_become_19 : decode cX5_become 19 = .ok (.iconst 0, 1) := by decide +kernel
theorem dX5_become_20 : decode cX5_become 20 = .ok (.aload_n 0, 1) := by decide +kernel
theorem dX5_become_21 : decode cX5_become 21 = .ok (.getfield 15, 3) := by decide +kernel
theorem dX5_become_24 : decode cX5_become 24 = .ok (.iconst 0, 1) := by decide +kernel
theorem dX5_become_25 : decode cX5_become 25 = .ok (.bipush 8, 2) := by decide +kernel
theorem dX5_become_27 : decode cX5_become 27 = .ok (.invokestatic 37, 3) := by decide +kernel
theorem dX5_become_30 : decode cX5_become 30 = .ok (.aload_n 1, 1) := by decide +kernel
theorem dX5_become_31 : decode cX5_become 31 = .ok (.getfield 18, 3) := by decide +kernel
theorem dX5_become_34 : decode cX5_become 34 = .ok (.iconst 0, 1) := by decide +kernel
theorem dX5_become_35 : decode cX5_become 35 = .ok (.aload_n 0, 1) := by decide +kernel
theorem dX5_become_36 : decode cX5_become 36 = .ok (.getfield 18, 3) := by decide +kernel
theorem dX5_become_39 : decode cX5_become 39 = .ok (.iconst 0, 1) := by decide +kernel
theorem dX5_become_40 : decode cX5_become 40 = .ok (.bipush 8, 2) := by decide +kernel
theorem dX5_become_42 : decode cX5_become 42 = .ok (.invokestatic 37, 3) := by decide +kernel
theorem dX5_become_45 : decode cX5_become 45 = .ok (.aload_n 1, 1) := by decide +kernel
theorem dX5_become_46 : decode cX5_become 46 = .ok (.getfield 21, 3) := by decide +kernel
theorem dX5_become_49 : decode cX5_become 49 = .ok (.iconst 0, 1) := by decide +kernel
theorem dX5_become_50 : decode cX5_become 50 = .ok (.aload_n 0, 1) := by decide +kernel
theorem dX5_become_51 : decode cX5_become 51 = .ok (.getfield 21, 3) := by decide +kernel
theorem dX5_become_54 : decode cX5_become 54 = .ok (.iconst 0, 1) := by decide +kernel
theorem dX5_become_55 : decode cX5_become 55 = .ok (.bipush 64, 2) := by decide +kernel
theorem dX5_become_57 : decode cX5_become 57 = .ok (.invokestatic 37, 3) := by decide +kernel
theorem dX5_become_60 : decode cX5_become 60 = .ok (.aload_n 0, 1) := by decide +kernel
theorem dX5_become_61 : decode cX5_become 61 = .ok (.aload_n 1, 1) := by decide +kernel
theorem dX5_become_62 : decode cX5_become 62 = .ok (.getfield 30, 3) := by decide +kernel
theorem dX5_become_65 : decode cX5_become 65 = .ok (.putfield 30, 3) := by decide +kernel
theorem dX5_become_68 : decode cX5_become 68 = .ok (.aload_n 0, 1) := by decide +kernel
theorem dX5_become_69 : decode cX5_become 69 = .ok (.aload_n 1, 1) := by decide +kernel
theorem dX5_become_70 : decode cX5_become 70 = .ok (.getfield 34, 3) := by decide +kernel
theorem dX5_become_73 : decode cX5_become 73 = .ok (.putfield 34, 3) := by decide +kernel
theorem dX5_become_76 : decode cX5_become 76 = .ok (.return_, 1) := by decide +kernel
theorem dX5_add_0 : decode cX5_add 0 = .ok (.aload_n 0, 1) := by decide +kernel
theorem dX5_add_1 : decode cX5_add 1 = .ok (.getfield 30, 3) := by decide +kernel
theorem dX5_add_4 : decode cX5_add 4 = .ok (.iconst 0, 1) := by decide +kernel
theorem dX5_add_5 : decode cX5_add 5 = .ok (.bipush 7, 2) := by decide +kernel
theorem dX5_add_7 : decode cX5_add 7 = .ok (.invokestatic 43, 3) := by decide +kernel
theorem dX5_add_10 : decode cX5_add 10 = .ok (.ifCond .ne 4, 3) := by decide +kernel
theorem dX5_add_13 : decode cX5_add 13 = .ok (.return_, 1) := by decide +kernel
theorem dX5_add_14 : decode cX5_add 14 = .ok (.aload_n 0, 1) := by decide +kernel
theorem dX5_add_15 : decode cX5_add 15 = .ok (.getfield 9, 3) := by decide +kernel
theorem dX5_add_18 : decode cX5_add 18 = .ok (.aload_n 0, 1) := by decide +kernel
theorem dX5_add_19 : decode cX5_add 19 = .ok (.getfield 30, 3) := by decide +kernel
theorem dX5_add_22 : decode cX5_add 22 = .ok (.iload_n 1, 1) := by decide +kernel
theorem dX5_add_23 : decode cX5_add 23 = .ok (.iastore, 1) := by decide +kernel
theorem dX5_add_24 : decode cX5_add 24 = .ok (.aload_n 0, 1) := by decide +kernel
theorem dX5_add_25 : decode cX5_add 25 = .ok (.getfield 15, 3) := by decide +kernel
theorem dX5_add_28 : decode cX5_add 28 = .ok (.aload_n 0, 1) := by decide +kernel
theorem dX5_add_29 : decode cX5_add 29 = .ok (.getfield 30, 3) := by decide +kernel
theorem dX5_add_32 : decode cX5_add 32 = .ok (.iload_n 2, 1) := by decide +kernel
theorem dX5_add_33 : decode cX5_add 33 = .ok (.iastore, 1) := by decide +kernel
theorem dX5_add_34 : decode cX5_add 34 = .ok (.aload_n 0, 1) := by decide +kernel
theorem dX5_add_35 : decode cX5_add 35 = .ok (.getfield 18, 3) := by decide +kernel
theorem dX5_add_38 : decode cX5_add 38 = .ok (.aload_n 0, 1) := by decide +kernel
theorem dX5_add_39 : decode cX5_add 39 = .ok (.getfield 30, 3) := by decide +kernel
theorem dX5_add_42 : decode cX5_add 42 = .ok (.aload_n 0, 1) := by decide +kernel
theorem dX5_add_43 : decode cX5_add 43 = .ok (.getfield 30, 3) := by decide +kernel
theorem dX5_add_46 : decode cX5_add 46 = .ok (.iastore, 1) := by decide +kernel
theorem dX5_add_47 : decode cX5_add 47 = .ok (.aload_n 0, 1) := by decide +kernel
theorem dX5_add_48 : decode cX5_add 48 = .ok (.dup, 1) := by decide +kernel
theorem dX5_add_49 : decode cX5_add 49 = .ok (.getfield 30, 3) := by decide +kernel
theorem dX5_add_52 : decode cX5_add 52 = .ok (.iconst 1, 1) := by decide +kernel
theorem dX5_add_53 : decode cX5_add 53 = .ok (.iadd, 1) := by decide +kernel
theorem dX5_add_54 : decode cX5_add 54 = .ok (.putfield 30, 3) := by decide +kernel
theorem dX5_add_57 : decode cX5_add 57 = .ok (.return_, 1) := by decide +kernel
theorem dX5_has_0 : decode cX5_has 0 = .ok (.iload_n 1, 1) := by decide +kernel
theorem dX5_has_1 : decode cX5_has 1 = .ok (.ifCond .lt 21, 3) := by decide +kernel
theorem dX5_has_4 : decode cX5_has 4 = .ok (.iload_n 1, 1) := by decide +kernel
theorem dX5_has_5 : decode cX5_has 5 = .ok (.aload_n 0, 1) := by decide +kernel
theorem dX5_has_6 : decode cX5_has 6 = .ok (.getfield 30, 3) := by decide +kernel
theorem dX5_has_9 : decode cX5_has 9 = .ok (.if_icmp .ge 13, 3) := by decide +kernel
theorem dX5_has_12 : decode cX5_has 12 = .ok (.iload_n 1, 1) := by decide +kernel
theorem dX5_has_13 : decode cX5_has 13 = .ok (.bipush 8, 2) := by decide +kernel
theorem dX5_has_15 : decode cX5_has 15 = .ok (.if_icmp .ge 7, 3) := by decide +kernel
theorem dX5_has_18 : decode cX5_has 18 = .ok (.iconst 1, 1) := by decide +kernel
theorem dX5_has_19 : decode cX5_has 19 = .ok (.goto 4, 3) := by decide +kernel
theorem dX5_has_22 : decode cX5_has 22 = .ok (.iconst 0, 1) := by decide +kernel
theorem dX5_has_23 : decode cX5_has 23 = .ok (.ireturn, 1) := by decide +kernel
theorem dX5_isPair_0 : decode cX5_isPair 0 = .ok (.aload_n 0, 1) := by decide +kernel
theorem dX5_isPair_1 : decode cX5_isPair 1 = .ok (.iload_n 1, 1) := by decide +kernel
theorem dX5_isPair_2 : decode cX5_isPair 2 = .ok (.invokevirtual 47, 3) := by decide +kernel
theorem dX5_isPair_5 : decode cX5_isPair 5 = .ok (.ifCond .eq 20, 3) := by decide +kernel
theorem dX5_isPair_8 : decode cX5_isPair 8 = .ok (.aload_n 0, 1) := by decide +kernel
theorem dX5_isPair_9 : decode cX5_isPair 9 = .ok (.iload_n 2, 1) := by decide +kernel
theorem dX5_isPair_10 : decode cX5_isPair 10 = .ok (.invokevirtual 47, 3) := by decide +kernel
theorem dX5_isPair_13 : decode cX5_isPair 13 = .ok (.ifCond .eq 12, 3) := by decide +kernel
theorem dX5_isPair_16 : decode cX5_isPair 16 = .ok (.iload_n 1, 1) := by decide +kernel
theorem dX5_isPair_17 : decode cX5_isPair 17 = .ok (.iload_n 2, 1) := by decide +kernel
theorem dX5_isPair_18 : decode cX5_isPair 18 = .ok (.if_icmp .eq 7, 3) := by decide +kernel
theorem dX5_isPair_21 : decode cX5_isPair 21 = .ok (.iconst 1, 1) := by decide +kernel
theorem dX5_isPair_22 : decode cX5_isPair 22 = .ok (.goto 4, 3) := by decide +kernel
theorem dX5_isPair_25 : decode cX5_isPair 25 = .ok (.iconst 0, 1) := by decide +kernel
theorem dX5_isPair_26 : decode cX5_isPair 26 = .ok (.ireturn, 1) := by decide +kernel
theorem dX5_everybody_0 : decode cX5_everybody 0 = .ok (.iconst 1, 1) := by decide +kernel
theorem dX5_everybody_1 : decode cX5_everybody 1 = .ok (.aload_n 0, 1) := by decide +kernel
theorem dX5_everybody_2 : decode cX5_everybody 2 = .ok (.getfield 30, 3) := by decide +kernel
theorem dX5_everybody_5 : decode cX5_everybody 5 = .ok (.ishl, 1) := by decide +kernel
theorem dX5_everybody_6 : decode cX5_everybody 6 = .ok (.iconst 1, 1) := by decide +kernel
theorem dX5_everybody_7 : decode cX5_everybody 7 = .ok (.isub, 1) := by decide +kernel
theorem dX5_everybody_8 : decode cX5_everybody 8 = .ok (.ireturn, 1) := by decide +kernel
theorem dX5_holdsAll_0 : decode cX5_holdsAll 0 = .ok (.iload_n 1, 1) := by decide +kernel
theorem dX5_holdsAll_1 : decode cX5_holdsAll 1 = .ok (.aload_n 0, 1) := by decide +kernel
theorem dX5_holdsAll_2 : decode cX5_holdsAll 2 = .ok (.invokevirtual 51, 3) := by decide +kernel
theorem dX5_holdsAll_5 : decode cX5_holdsAll 5 = .ok (.iconst (-1), 1) := by decide +kernel
theorem dX5_holdsAll_6 : decode cX5_holdsAll 6 = .ok (.ixor, 1) := by decide +kernel
theorem dX5_holdsAll_7 : decode cX5_holdsAll 7 = .ok (.iand, 1) := by decide +kernel
theorem dX5_holdsAll_8 : decode cX5_holdsAll 8 = .ok (.ifCond .ne 7, 3) := by decide +kernel
theorem dX5_holdsAll_11 : decode cX5_holdsAll 11 = .ok (.iconst 1, 1) := by decide +kernel
theorem dX5_holdsAll_12 : decode cX5_holdsAll 12 = .ok (.goto 4, 3) := by decide +kernel
theorem dX5_holdsAll_15 : decode cX5_holdsAll 15 = .ok (.iconst 0, 1) := by decide +kernel
theorem dX5_holdsAll_16 : decode cX5_holdsAll 16 = .ok (.ireturn, 1) := by decide +kernel
theorem dX5_marksOf_0 : decode cX5_marksOf 0 = .ok (.aload_n 0, 1) := by decide +kernel
theorem dX5_marksOf_1 : decode cX5_marksOf 1 = .ok (.iload_n 1, 1) := by decide +kernel
theorem dX5_marksOf_2 : decode cX5_marksOf 2 = .ok (.invokevirtual 47, 3) := by decide +kernel
theorem dX5_marksOf_5 : decode cX5_marksOf 5 = .ok (.ifCond .eq 12, 3) := by decide +kernel
theorem dX5_marksOf_8 : decode cX5_marksOf 8 = .ok (.aload_n 0, 1) := by decide +kernel
theorem dX5_marksOf_9 : decode cX5_marksOf 9 = .ok (.getfield 9, 3) := by decide +kernel
theorem dX5_marksOf_12 : decode cX5_marksOf 12 = .ok (.iload_n 1, 1) := by decide +kernel
theorem dX5_marksOf_13 : decode cX5_marksOf 13 = .ok (.iaload, 1) := by decide +kernel
theorem dX5_marksOf_14 : decode cX5_marksOf 14 = .ok (.goto 4, 3) := by decide +kernel
theorem dX5_marksOf_17 : decode cX5_marksOf 17 = .ok (.iconst 0, 1) := by decide +kernel
theorem dX5_marksOf_18 : decode cX5_marksOf 18 = .ok (.ireturn, 1) := by decide +kernel
theorem dX5_changesOf_0 : decode cX5_changesOf 0 = .ok (.aload_n 0, 1) := by decide +kernel
theorem dX5_changesOf_1 : decode cX5_changesOf 1 = .ok (.iload_n 1, 1) := by decide +kernel
theorem dX5_changesOf_2 : decode cX5_changesOf 2 = .ok (.invokevirtual 47, 3) := by decide +kernel
theorem dX5_changesOf_5 : decode cX5_changesOf 5 = .ok (.ifCond .eq 12, 3) := by decide +kernel
theorem dX5_changesOf_8 : decode cX5_changesOf 8 = .ok (.aload_n 0, 1) := by decide +kernel
theorem dX5_changesOf_9 : decode cX5_changesOf 9 = .ok (.getfield 15, 3) := by decide +kernel
theorem dX5_changesOf_12 : decode cX5_changesOf 12 = .ok (.iload_n 1, 1) := by decide +kernel
theorem dX5_changesOf_13 : decode cX5_changesOf 13 = .ok (.iaload, 1) := by decide +kernel
theorem dX5_changesOf_14 : decode cX5_changesOf 14 = .ok (.goto 4, 3) := by decide +kernel
theorem dX5_changesOf_17 : decode cX5_changesOf 17 = .ok (.iconst 0, 1) := by decide +kernel
theorem dX5_changesOf_18 : decode cX5_changesOf 18 = .ok (.ireturn, 1) := by decide +kernel
theorem dX5_identityOf_0 : decode cX5_identityOf 0 = .ok (.aload_n 0, 1) := by decide +kernel
theorem dX5_identityOf_1 : decode cX5_identityOf 1 = .ok (.iload_n 1, 1) := by decide +kernel
theorem dX5_identityOf_2 : decode cX5_identityOf 2 = .ok (.invokevirtual 47, 3) := by decide +kernel
theorem dX5_identityOf_5 : decode cX5_identityOf 5 = .ok (.ifCond .eq 12, 3) := by decide +kernel
theorem dX5_identityOf_8 : decode cX5_identityOf 8 = .ok (.aload_n 0, 1) := by decide +kernel
theorem dX5_identityOf_9 : decode cX5_identityOf 9 = .ok (.getfield 18, 3) := by decide +kernel
theorem dX5_identityOf_12 : decode cX5_identityOf 12 = .ok (.iload_n 1, 1) := by decide +kernel
theorem dX5_identityOf_13 : decode cX5_identityOf 13 = .ok (.iaload, 1) := by decide +kernel
theorem dX5_identityOf_14 : decode cX5_identityOf 14 = .ok (.goto 4, 3) := by decide +kernel
theorem dX5_identityOf_17 : decode cX5_identityOf 17 = .ok (.iconst (-1), 1) := by decide +kernel
theorem dX5_identityOf_18 : decode cX5_identityOf 18 = .ok (.ireturn, 1) := by decide +kernel
theorem dX5_memoryOf_0 : decode cX5_memoryOf 0 = .ok (.aload_n 0, 1) := by decide +kernel
theorem dX5_memoryOf_1 : decode cX5_memoryOf 1 = .ok (.iload_n 1, 1) := by decide +kernel
theorem dX5_memoryOf_2 : decode cX5_memoryOf 2 = .ok (.iload_n 2, 1) := by decide +kernel
theorem dX5_memoryOf_3 : decode cX5_memoryOf 3 = .ok (.invokevirtual 55, 3) := by decide +kernel
theorem dX5_memoryOf_6 : decode cX5_memoryOf 6 = .ok (.ifCond .eq 17, 3) := by decide +kernel
theorem dX5_memoryOf_9 : decode cX5_memoryOf 9 = .ok (.aload_n 0, 1) := by decide +kernel
theorem dX5_memoryOf_10 : decode cX5_memoryOf 10 = .ok (.getfield 21, 3) := by decide +kernel
theorem dX5_memoryOf_13 : decode cX5_memoryOf 13 = .ok (.iload_n 1, 1) := by decide +kernel
theorem dX5_memoryOf_14 : decode cX5_memoryOf 14 = .ok (.bipush 8, 2) := by decide +kernel
theorem dX5_memoryOf_16 : decode cX5_memoryOf 16 = .ok (.imul, 1) := by decide +kernel
theorem dX5_memoryOf_17 : decode cX5_memoryOf 17 = .ok (.iload_n 2, 1) := by decide +kernel
theorem dX5_memoryOf_18 : decode cX5_memoryOf 18 = .ok (.iadd, 1) := by decide +kernel
theorem dX5_memoryOf_19 : decode cX5_memoryOf 19 = .ok (.iaload, 1) := by decide +kernel
theorem dX5_memoryOf_20 : decode cX5_memoryOf 20 = .ok (.goto 4, 3) := by decide +kernel
theorem dX5_memoryOf_23 : decode cX5_memoryOf 23 = .ok (.iconst (-1), 1) := by decide +kernel
theorem dX5_memoryOf_24 : decode cX5_memoryOf 24 = .ok (.ireturn, 1) := by decide +kernel
theorem dX5_knows_0 : decode cX5_knows 0 = .ok (.aload_n 0, 1) := by decide +kernel
theorem dX5_knows_1 : decode cX5_knows 1 = .ok (.iload_n 1, 1) := by decide +kernel
theorem dX5_knows_2 : decode cX5_knows 2 = .ok (.iload_n 2, 1) := by decide +kernel
theorem dX5_knows_3 : decode cX5_knows 3 = .ok (.invokevirtual 59, 3) := by decide +kernel
theorem dX5_knows_6 : decode cX5_knows 6 = .ok (.iconst (-1), 1) := by decide +kernel
theorem dX5_knows_7 : decode cX5_knows 7 = .ok (.if_icmp .eq 7, 3) := by decide +kernel
theorem dX5_knows_10 : decode cX5_knows 10 = .ok (.iconst 1, 1) := by decide +kernel
theorem dX5_knows_11 : decode cX5_knows 11 = .ok (.goto 4, 3) := by decide +kernel
theorem dX5_knows_14 : decode cX5_knows 14 = .ok (.iconst 0, 1) := by decide +kernel
theorem dX5_knows_15 : decode cX5_knows 15 = .ok (.ireturn, 1) := by decide +kernel
theorem dX5_flip_0 : decode cX5_flip 0 = .ok (.aload_n 0, 1) := by decide +kernel
theorem dX5_flip_1 : decode cX5_flip 1 = .ok (.iload_n 1, 1) := by decide +kernel
theorem dX5_flip_2 : decode cX5_flip 2 = .ok (.invokevirtual 47, 3) := by decide +kernel
theorem dX5_flip_5 : decode cX5_flip 5 = .ok (.ifCond .eq 15, 3) := by decide +kernel
theorem dX5_flip_8 : decode cX5_flip 8 = .ok (.aload_n 0, 1) := by decide +kernel
theorem dX5_flip_9 : decode cX5_flip 9 = .ok (.getfield 9, 3) := by decide +kernel
theorem dX5_flip_12 : decode cX5_flip 12 = .ok (.iload_n 1, 1) := by decide +kernel
theorem dX5_flip_13 : decode cX5_flip 13 = .ok (.dup2, 1) := by decide +kernel
theorem dX5_flip_14 : decode cX5_flip 14 = .ok (.iaload, 1) := by decide +kernel
theorem dX5_flip_15 : decode cX5_flip 15 = .ok (.iconst 1, 1) := by decide +kernel
theorem dX5_flip_16 : decode cX5_flip 16 = .ok (.iload_n 2, 1) := by decide +kernel
theorem dX5_flip_17 : decode cX5_flip 17 = .ok (.ishl, 1) := by decide +kernel
theorem dX5_flip_18 : decode cX5_flip 18 = .ok (.ixor, 1) := by decide +kernel
theorem dX5_flip_19 : decode cX5_flip 19 = .ok (.iastore, 1) := by decide +kernel
theorem dX5_flip_20 : decode cX5_flip 20 = .ok (.return_, 1) := by decide +kernel
theorem dX5_learn_0 : decode cX5_learn 0 = .ok (.aload_n 0, 1) := by decide +kernel
theorem dX5_learn_1 : decode cX5_learn 1 = .ok (.iload_n 1, 1) := by decide +kernel
theorem dX5_learn_2 : decode cX5_learn 2 = .ok (.iload_n 2, 1) := by decide +kernel
theorem dX5_learn_3 : decode cX5_learn 3 = .ok (.invokevirtual 55, 3) := by decide +kernel
theorem dX5_learn_6 : decode cX5_learn 6 = .ok (.ifCond .eq 19, 3) := by decide +kernel
theorem dX5_learn_9 : decode cX5_learn 9 = .ok (.aload_n 0, 1) := by decide +kernel
theorem dX5_learn_10 : decode cX5_learn 10 = .ok (.getfield 21, 3) := by decide +kernel
theorem dX5_learn_13 : decode cX5_learn 13 = .ok (.iload_n 1, 1) := by decide +kernel
theorem dX5_learn_14 : decode cX5_learn 14 = .ok (.bipush 8, 2) := by decide +kernel
theorem dX5_learn_16 : decode cX5_learn 16 = .ok (.imul, 1) := by decide +kernel
theorem dX5_learn_17 : decode cX5_learn 17 = .ok (.iload_n 2, 1) := by decide +kernel
theorem dX5_learn_18 : decode cX5_learn 18 = .ok (.iadd, 1) := by decide +kernel
theorem dX5_learn_19 : decode cX5_learn 19 = .ok (.aload_n 0, 1) := by decide +kernel
theorem dX5_learn_20 : decode cX5_learn 20 = .ok (.iload_n 2, 1) := by decide +kernel
theorem dX5_learn_21 : decode cX5_learn 21 = .ok (.invokevirtual 63, 3) := by decide +kernel
theorem dX5_learn_24 : decode cX5_learn 24 = .ok (.iastore, 1) := by decide +kernel
theorem dX5_learn_25 : decode cX5_learn 25 = .ok (.return_, 1) := by decide +kernel
theorem dX5_unlearn_0 : decode cX5_unlearn 0 = .ok (.aload_n 0, 1) := by decide +kernel
theorem dX5_unlearn_1 : decode cX5_unlearn 1 = .ok (.iload_n 1, 1) := by decide +kernel
theorem dX5_unlearn_2 : decode cX5_unlearn 2 = .ok (.iload_n 2, 1) := by decide +kernel
theorem dX5_unlearn_3 : decode cX5_unlearn 3 = .ok (.invokevirtual 55, 3) := by decide +kernel
theorem dX5_unlearn_6 : decode cX5_unlearn 6 = .ok (.ifCond .eq 15, 3) := by decide +kernel
theorem dX5_unlearn_9 : decode cX5_unlearn 9 = .ok (.aload_n 0, 1) := by decide +kernel
theorem dX5_unlearn_10 : decode cX5_unlearn 10 = .ok (.getfield 21, 3) := by decide +kernel
theorem dX5_unlearn_13 : decode cX5_unlearn 13 = .ok (.iload_n 1, 1) := by decide +kernel
theorem dX5_unlearn_14 : decode cX5_unlearn 14 = .ok (.bipush 8, 2) := by decide +kernel
theorem dX5_unlearn_16 : decode cX5_unlearn 16 = .ok (.imul, 1) := by decide +kernel
theorem dX5_unlearn_17 : decode cX5_unlearn 17 = .ok (.iload_n 2, 1) := by decide +kernel
theorem dX5_unlearn_18 : decode cX5_unlearn 18 = .ok (.iadd, 1) := by decide +kernel
theorem dX5_unlearn_19 : decode cX5_unlearn 19 = .ok (.iconst (-1), 1) := by decide +kernel
theorem dX5_unlearn_20 : decode cX5_unlearn 20 = .ok (.iastore, 1) := by decide +kernel
theorem dX5_unlearn_21 : decode cX5_unlearn 21 = .ok (.return_, 1) := by decide +kernel
theorem dX5_identify_0 : decode cX5_identify 0 = .ok (.aload_n 0, 1) := by decide +kernel
theorem dX5_identify_1 : decode cX5_identify 1 = .ok (.iload_n 1, 1) := by decide +kernel
theorem dX5_identify_2 : decode cX5_identify 2 = .ok (.invokevirtual 47, 3) := by decide +kernel
theorem dX5_identify_5 : decode cX5_identify 5 = .ok (.ifCond .eq 10, 3) := by decide +kernel
theorem dX5_identify_8 : decode cX5_identify 8 = .ok (.aload_n 0, 1) := by decide +kernel
theorem dX5_identify_9 : decode cX5_identify 9 = .ok (.getfield 18, 3) := by decide +kernel
theorem dX5_identify_12 : decode cX5_identify 12 = .ok (.iload_n 1, 1) := by decide +kernel
theorem dX5_identify_13 : decode cX5_identify 13 = .ok (.iload_n 2, 1) := by decide +kernel
theorem dX5_identify_14 : decode cX5_identify 14 = .ok (.iastore, 1) := by decide +kernel
theorem dX5_identify_15 : decode cX5_identify 15 = .ok (.return_, 1) := by decide +kernel
theorem dX5_passYears_0 : decode cX5_passYears 0 = .ok (.iconst 0, 1) := by decide +kernel
theorem dX5_passYears_1 : decode cX5_passYears 1 = .ok (.istore_n 2, 1) := by decide +kernel
theorem dX5_passYears_2 : decode cX5_passYears 2 = .ok (.iload_n 2, 1) := by decide +kernel
theorem dX5_passYears_3 : decode cX5_passYears 3 = .ok (.iload_n 1, 1) := by decide +kernel
theorem dX5_passYears_4 : decode cX5_passYears 4 = .ok (.if_icmp .ge 69, 3) := by decide +kernel
theorem dX5_passYears_7 : decode cX5_passYears 7 = .ok (.iload_n 2, 1) := by decide +kernel
theorem dX5_passYears_8 : decode cX5_passYears 8 = .ok (.bipush 60, 2) := by decide +kernel
theorem dX5_passYears_10 : decode cX5_passYears 10 = .ok (.if_icmp .ge 63, 3) := by decide +kernel
theorem dX5_passYears_13 : decode cX5_passYears 13 = .ok (.iconst 0, 1) := by decide +kernel
theorem dX5_passYears_14 : decode cX5_passYears 14 = .ok (.istore_n 3, 1) := by decide +kernel
theorem dX5_passYears_15 : decode cX5_passYears 15 = .ok (.iload_n 3, 1) := by decide +kernel
theorem dX5_passYears_16 : decode cX5_passYears 16 = .ok (.aload_n 0, 1) := by decide +kernel
theorem dX5_passYears_17 : decode cX5_passYears 17 = .ok (.getfield 30, 3) := by decide +kernel
theorem dX5_passYears_20 : decode cX5_passYears 20 = .ok (.if_icmp .ge 37, 3) := by decide +kernel
theorem dX5_passYears_23 : decode cX5_passYears 23 = .ok (.aload_n 0, 1) := by decide +kernel
theorem dX5_passYears_24 : decode cX5_passYears 24 = .ok (.iload_n 3, 1) := by decide +kernel
theorem dX5_passYears_25 : decode cX5_passYears 25 = .ok (.invokevirtual 67, 3) := by decide +kernel
theorem dX5_passYears_28 : decode cX5_passYears 28 = .ok (.ifCond .le 23, 3) := by decide +kernel
theorem dX5_passYears_31 : decode cX5_passYears 31 = .ok (.aload_n 0, 1) := by decide +kernel
theorem dX5_passYears_32 : decode cX5_passYears 32 = .ok (.iload_n 3, 1) := by decide +kernel
theorem dX5_passYears_33 : decode cX5_passYears 33 = .ok (.aload_n 0, 1) := by decide +kernel
theorem dX5_passYears_34 : decode cX5_passYears 34 = .ok (.getfield 34, 3) := by decide +kernel
theorem dX5_passYears_37 : decode cX5_passYears 37 = .ok (.aload_n 0, 1) := by decide +kernel
theorem dX5_passYears_38 : decode cX5_passYears 38 = .ok (.iload_n 3, 1) := by decide +kernel
theorem dX5_passYears_39 : decode cX5_passYears 39 = .ok (.invokevirtual 67, 3) := by decide +kernel
theorem dX5_passYears_42 : decode cX5_passYears 42 = .ok (.imul, 1) := by decide +kernel
theorem dX5_passYears_43 : decode cX5_passYears 43 = .ok (.iload_n 3, 1) := by decide +kernel
theorem dX5_passYears_44 : decode cX5_passYears 44 = .ok (.iadd, 1) := by decide +kernel
theorem dX5_passYears_45 : decode cX5_passYears 45 = .ok (.bipush 8, 2) := by decide +kernel
theorem dX5_passYears_47 : decode cX5_passYears 47 = .ok (.irem, 1) := by decide +kernel
theorem dX5_passYears_48 : decode cX5_passYears 48 = .ok (.invokevirtual 70, 3) := by decide +kernel
theorem dX5_passYears_51 : decode cX5_passYears 51 = .ok (.iinc 3 1, 3) := by decide +kernel
theorem dX5_passYears_54 : decode cX5_passYears 54 = .ok (.goto (-39), 3) := by decide +kernel
theorem dX5_passYears_57 : decode cX5_passYears 57 = .ok (.aload_n 0, 1) := by decide +kernel
theorem dX5_passYears_58 : decode cX5_passYears 58 = .ok (.dup, 1) := by decide +kernel
theorem dX5_passYears_59 : decode cX5_passYears 59 = .ok (.getfield 34, 3) := by decide +kernel
theorem dX5_passYears_62 : decode cX5_passYears 62 = .ok (.iconst 1, 1) := by decide +kernel
theorem dX5_passYears_63 : decode cX5_passYears 63 = .ok (.iadd, 1) := by decide +kernel
theorem dX5_passYears_64 : decode cX5_passYears 64 = .ok (.putfield 34, 3) := by decide +kernel
theorem dX5_passYears_67 : decode cX5_passYears 67 = .ok (.iinc 2 1, 3) := by decide +kernel
theorem dX5_passYears_70 : decode cX5_passYears 70 = .ok (.goto (-68), 3) := by decide +kernel
theorem dX5_passYears_73 : decode cX5_passYears 73 = .ok (.return_, 1) := by decide +kernel
theorem dX5_knownBy_0 : decode cX5_knownBy 0 = .ok (.iconst 0, 1) := by decide +kernel
theorem dX5_knownBy_1 : decode cX5_knownBy 1 = .ok (.istore_n 2, 1) := by decide +kernel
theorem dX5_knownBy_2 : decode cX5_knownBy 2 = .ok (.iconst 0, 1) := by decide +kernel
theorem dX5_knownBy_3 : decode cX5_knownBy 3 = .ok (.istore_n 3, 1) := by decide +kernel
theorem dX5_knownBy_4 : decode cX5_knownBy 4 = .ok (.iload_n 3, 1) := by decide +kernel
theorem dX5_knownBy_5 : decode cX5_knownBy 5 = .ok (.aload_n 0, 1) := by decide +kernel
theorem dX5_knownBy_6 : decode cX5_knownBy 6 = .ok (.getfield 30, 3) := by decide +kernel
theorem dX5_knownBy_9 : decode cX5_knownBy 9 = .ok (.if_icmp .ge 24, 3) := by decide +kernel
theorem dX5_knownBy_12 : decode cX5_knownBy 12 = .ok (.aload_n 0, 1) := by decide +kernel
theorem dX5_knownBy_13 : decode cX5_knownBy 13 = .ok (.iload_n 1, 1) := by decide +kernel
theorem dX5_knownBy_14 : decode cX5_knownBy 14 = .ok (.iload_n 3, 1) := by decide +kernel
theorem dX5_knownBy_15 : decode cX5_knownBy 15 = .ok (.invokevirtual 74, 3) := by decide +kernel
theorem dX5_knownBy_18 : decode cX5_knownBy 18 = .ok (.ifCond .eq 9, 3) := by decide +kernel
theorem dX5_knownBy_21 : decode cX5_knownBy 21 = .ok (.iload_n 2, 1) := by decide +kernel
theorem dX5_knownBy_22 : decode cX5_knownBy 22 = .ok (.iconst 1, 1) := by decide +kernel
theorem dX5_knownBy_23 : decode cX5_knownBy 23 = .ok (.iload_n 3, 1) := by decide +kernel
theorem dX5_knownBy_24 : decode cX5_knownBy 24 = .ok (.ishl, 1) := by decide +kernel
theorem dX5_knownBy_25 : decode cX5_knownBy 25 = .ok (.ior, 1) := by decide +kernel
theorem dX5_knownBy_26 : decode cX5_knownBy 26 = .ok (.istore_n 2, 1) := by decide +kernel
theorem dX5_knownBy_27 : decode cX5_knownBy 27 = .ok (.iinc 3 1, 3) := by decide +kernel
theorem dX5_knownBy_30 : decode cX5_knownBy 30 = .ok (.goto (-26), 3) := by decide +kernel
theorem dX5_knownBy_33 : decode cX5_knownBy 33 = .ok (.iload_n 2, 1) := by decide +kernel
theorem dX5_knownBy_34 : decode cX5_knownBy 34 = .ok (.ireturn, 1) := by decide +kernel
theorem dX5_knowersOf_0 : decode cX5_knowersOf 0 = .ok (.iconst 0, 1) := by decide +kernel
theorem dX5_knowersOf_1 : decode cX5_knowersOf 1 = .ok (.istore_n 2, 1) := by decide +kernel
theorem dX5_knowersOf_2 : decode cX5_knowersOf 2 = .ok (.iconst 0, 1) := by decide +kernel
theorem dX5_knowersOf_3 : decode cX5_knowersOf 3 = .ok (.istore_n 3, 1) := by decide +kernel
theorem dX5_knowersOf_4 : decode cX5_knowersOf 4 = .ok (.iload_n 3, 1) := by decide +kernel
theorem dX5_knowersOf_5 : decode cX5_knowersOf 5 = .ok (.aload_n 0, 1) := by decide +kernel
theorem dX5_knowersOf_6 : decode cX5_knowersOf 6 = .ok (.getfield 30, 3) := by decide +kernel
theorem dX5_knowersOf_9 : decode cX5_knowersOf 9 = .ok (.if_icmp .ge 24, 3) := by decide +kernel
theorem dX5_knowersOf_12 : decode cX5_knowersOf 12 = .ok (.aload_n 0, 1) := by decide +kernel
theorem dX5_knowersOf_13 : decode cX5_knowersOf 13 = .ok (.iload_n 3, 1) := by decide +kernel
theorem dX5_knowersOf_14 : decode cX5_knowersOf 14 = .ok (.iload_n 1, 1) := by decide +kernel
theorem dX5_knowersOf_15 : decode cX5_knowersOf 15 = .ok (.invokevirtual 74, 3) := by decide +kernel
theorem dX5_knowersOf_18 : decode cX5_knowersOf 18 = .ok (.ifCond .eq 9, 3) := by decide +kernel
theorem dX5_knowersOf_21 : decode cX5_knowersOf 21 = .ok (.iload_n 2, 1) := by decide +kernel
theorem dX5_knowersOf_22 : decode cX5_knowersOf 22 = .ok (.iconst 1, 1) := by decide +kernel
theorem dX5_knowersOf_23 : decode cX5_knowersOf 23 = .ok (.iload_n 3, 1) := by decide +kernel
theorem dX5_knowersOf_24 : decode cX5_knowersOf 24 = .ok (.ishl, 1) := by decide +kernel
theorem dX5_knowersOf_25 : decode cX5_knowersOf 25 = .ok (.ior, 1) := by decide +kernel
theorem dX5_knowersOf_26 : decode cX5_knowersOf 26 = .ok (.istore_n 2, 1) := by decide +kernel
theorem dX5_knowersOf_27 : decode cX5_knowersOf 27 = .ok (.iinc 3 1, 3) := by decide +kernel
theorem dX5_knowersOf_30 : decode cX5_knowersOf 30 = .ok (.goto (-26), 3) := by decide +kernel
theorem dX5_knowersOf_33 : decode cX5_knowersOf 33 = .ok (.iload_n 2, 1) := by decide +kernel
theorem dX5_knowersOf_34 : decode cX5_knowersOf 34 = .ok (.ireturn, 1) := by decide +kernel
theorem dX5_countAcquaintances_0 : decode cX5_countAcquaintances 0 = .ok (.iconst 0, 1) := by decide +kernel
theorem dX5_countAcquaintances_1 : decode cX5_countAcquaintances 1 = .ok (.istore_n 1, 1) := by decide +kernel
theorem dX5_countAcquaintances_2 : decode cX5_countAcquaintances 2 = .ok (.iconst 0, 1) := by decide +kernel
theorem dX5_countAcquaintances_3 : decode cX5_countAcquaintances 3 = .ok (.istore_n 2, 1) := by decide +kernel
theorem dX5_countAcquaintances_4 : decode cX5_countAcquaintances 4 = .ok (.iload_n 2, 1) := by decide +kernel
theorem dX5_countAcquaintances_5 : decode cX5_countAcquaintances 5 = .ok (.aload_n 0, 1) := by decide +kernel
theorem dX5_countAcquaintances_6 : decode cX5_countAcquaintances 6 = .ok (.getfield 30, 3) := by decide +kernel
theorem dX5_countAcquaintances_9 : decode cX5_countAcquaintances 9 = .ok (.if_icmp .ge 20, 3) := by decide +kernel
theorem dX5_countAcquaintances_12 : decode cX5_countAcquaintances 12 = .ok (.iload_n 1, 1) := by decide +kernel
theorem dX5_countAcquaintances_13 : decode cX5_countAcquaintances 13 = .ok (.aload_n 0, 1) := by decide +kernel
theorem dX5_countAcquaintances_14 : decode cX5_countAcquaintances 14 = .ok (.iload_n 2, 1) := by decide +kernel
theorem dX5_countAcquaintances_15 : decode cX5_countAcquaintances 15 = .ok (.invokevirtual 77, 3) := by decide +kernel
theorem dX5_countAcquaintances_18 : decode cX5_countAcquaintances 18 = .ok (.invokestatic 80, 3) := by decide +kernel
theorem dX5_countAcquaintances_21 : decode cX5_countAcquaintances 21 = .ok (.iadd, 1) := by decide +kernel
theorem dX5_countAcquaintances_22 : decode cX5_countAcquaintances 22 = .ok (.istore_n 1, 1) := by decide +kernel
theorem dX5_countAcquaintances_23 : decode cX5_countAcquaintances 23 = .ok (.iinc 2 1, 3) := by decide +kernel
theorem dX5_countAcquaintances_26 : decode cX5_countAcquaintances 26 = .ok (.goto (-22), 3) := by decide +kernel
theorem dX5_countAcquaintances_29 : decode cX5_countAcquaintances 29 = .ok (.iload_n 1, 1) := by decide +kernel
theorem dX5_countAcquaintances_30 : decode cX5_countAcquaintances 30 = .ok (.ireturn, 1) := by decide +kernel
theorem dX5_whoAre_0 : decode cX5_whoAre 0 = .ok (.iconst 0, 1) := by decide +kernel
theorem dX5_whoAre_1 : decode cX5_whoAre 1 = .ok (.istore_n 2, 1) := by decide +kernel
theorem dX5_whoAre_2 : decode cX5_whoAre 2 = .ok (.iconst 0, 1) := by decide +kernel
theorem dX5_whoAre_3 : decode cX5_whoAre 3 = .ok (.istore_n 3, 1) := by decide +kernel
theorem dX5_whoAre_4 : decode cX5_whoAre 4 = .ok (.iload_n 3, 1) := by decide +kernel
theorem dX5_whoAre_5 : decode cX5_whoAre 5 = .ok (.aload_n 0, 1) := by decide +kernel
theorem dX5_whoAre_6 : decode cX5_whoAre 6 = .ok (.getfield 30, 3) := by decide +kernel
theorem dX5_whoAre_9 : decode cX5_whoAre 9 = .ok (.if_icmp .ge 24, 3) := by decide +kernel
theorem dX5_whoAre_12 : decode cX5_whoAre 12 = .ok (.aload_n 0, 1) := by decide +kernel
theorem dX5_whoAre_13 : decode cX5_whoAre 13 = .ok (.iload_n 3, 1) := by decide +kernel
theorem dX5_whoAre_14 : decode cX5_whoAre 14 = .ok (.invokevirtual 85, 3) := by decide +kernel
theorem dX5_whoAre_17 : decode cX5_whoAre 17 = .ok (.iload_n 1, 1) := by decide +kernel
theorem dX5_whoAre_18 : decode cX5_whoAre 18 = .ok (.if_icmp .ne 9, 3) := by decide +kernel
theorem dX5_whoAre_21 : decode cX5_whoAre 21 = .ok (.iload_n 2, 1) := by decide +kernel
theorem dX5_whoAre_22 : decode cX5_whoAre 22 = .ok (.iconst 1, 1) := by decide +kernel
theorem dX5_whoAre_23 : decode cX5_whoAre 23 = .ok (.iload_n 3, 1) := by decide +kernel
theorem dX5_whoAre_24 : decode cX5_whoAre 24 = .ok (.ishl, 1) := by decide +kernel
theorem dX5_whoAre_25 : decode cX5_whoAre 25 = .ok (.ior, 1) := by decide +kernel
theorem dX5_whoAre_26 : decode cX5_whoAre 26 = .ok (.istore_n 2, 1) := by decide +kernel
theorem dX5_whoAre_27 : decode cX5_whoAre 27 = .ok (.iinc 3 1, 3) := by decide +kernel
theorem dX5_whoAre_30 : decode cX5_whoAre 30 = .ok (.goto (-26), 3) := by decide +kernel
theorem dX5_whoAre_33 : decode cX5_whoAre 33 = .ok (.iload_n 2, 1) := by decide +kernel
theorem dX5_whoAre_34 : decode cX5_whoAre 34 = .ok (.ireturn, 1) := by decide +kernel
theorem dX5_twoOfOne_0 : decode cX5_twoOfOne 0 = .ok (.iconst 0, 1) := by decide +kernel
theorem dX5_twoOfOne_1 : decode cX5_twoOfOne 1 = .ok (.istore_n 1, 1) := by decide +kernel
theorem dX5_twoOfOne_2 : decode cX5_twoOfOne 2 = .ok (.iconst 0, 1) := by decide +kernel
theorem dX5_twoOfOne_3 : decode cX5_twoOfOne 3 = .ok (.istore_n 2, 1) := by decide +kernel
theorem dX5_twoOfOne_4 : decode cX5_twoOfOne 4 = .ok (.iload_n 2, 1) := by decide +kernel
theorem dX5_twoOfOne_5 : decode cX5_twoOfOne 5 = .ok (.aload_n 0, 1) := by decide +kernel
theorem dX5_twoOfOne_6 : decode cX5_twoOfOne 6 = .ok (.getfield 30, 3) := by decide +kernel
theorem dX5_twoOfOne_9 : decode cX5_twoOfOne 9 = .ok (.if_icmp .ge 27, 3) := by decide +kernel
theorem dX5_twoOfOne_12 : decode cX5_twoOfOne 12 = .ok (.aload_n 0, 1) := by decide +kernel
theorem dX5_twoOfOne_13 : decode cX5_twoOfOne 13 = .ok (.iload_n 2, 1) := by decide +kernel
theorem dX5_twoOfOne_14 : decode cX5_twoOfOne 14 = .ok (.invokevirtual 88, 3) := by decide +kernel
theorem dX5_twoOfOne_17 : decode cX5_twoOfOne 17 = .ok (.istore_n 3, 1) := by decide +kernel
theorem dX5_twoOfOne_18 : decode cX5_twoOfOne 18 = .ok (.iload_n 3, 1) := by decide +kernel
theorem dX5_twoOfOne_19 : decode cX5_twoOfOne 19 = .ok (.invokestatic 80, 3) := by decide +kernel
theorem dX5_twoOfOne_22 : decode cX5_twoOfOne 22 = .ok (.iconst 1, 1) := by decide +kernel
theorem dX5_twoOfOne_23 : decode cX5_twoOfOne 23 = .ok (.if_icmp .le 7, 3) := by decide +kernel
theorem dX5_twoOfOne_26 : decode cX5_twoOfOne 26 = .ok (.iload_n 1, 1) := by decide +kernel
theorem dX5_twoOfOne_27 : decode cX5_twoOfOne 27 = .ok (.iload_n 3, 1) := by decide +kernel
theorem dX5_twoOfOne_28 : decode cX5_twoOfOne 28 = .ok (.ior, 1) := by decide +kernel
theorem dX5_twoOfOne_29 : decode cX5_twoOfOne 29 = .ok (.istore_n 1, 1) := by decide +kernel
theorem dX5_twoOfOne_30 : decode cX5_twoOfOne 30 = .ok (.iinc 2 1, 3) := by decide +kernel
theorem dX5_twoOfOne_33 : decode cX5_twoOfOne 33 = .ok (.goto (-29), 3) := by decide +kernel
theorem dX5_twoOfOne_36 : decode cX5_twoOfOne 36 = .ok (.iload_n 1, 1) := by decide +kernel
theorem dX5_twoOfOne_37 : decode cX5_twoOfOne 37 = .ok (.ireturn, 1) := by decide +kernel
theorem dX5_nobodies_0 : decode cX5_nobodies 0 = .ok (.iconst 0, 1) := by decide +kernel
theorem dX5_nobodies_1 : decode cX5_nobodies 1 = .ok (.istore_n 1, 1) := by decide +kernel
theorem dX5_nobodies_2 : decode cX5_nobodies 2 = .ok (.iconst 0, 1) := by decide +kernel
theorem dX5_nobodies_3 : decode cX5_nobodies 3 = .ok (.istore_n 2, 1) := by decide +kernel
theorem dX5_nobodies_4 : decode cX5_nobodies 4 = .ok (.iload_n 2, 1) := by decide +kernel
theorem dX5_nobodies_5 : decode cX5_nobodies 5 = .ok (.aload_n 0, 1) := by decide +kernel
theorem dX5_nobodies_6 : decode cX5_nobodies 6 = .ok (.getfield 30, 3) := by decide +kernel
theorem dX5_nobodies_9 : decode cX5_nobodies 9 = .ok (.if_icmp .ge 23, 3) := by decide +kernel
theorem dX5_nobodies_12 : decode cX5_nobodies 12 = .ok (.aload_n 0, 1) := by decide +kernel
theorem dX5_nobodies_13 : decode cX5_nobodies 13 = .ok (.iload_n 2, 1) := by decide +kernel
theorem dX5_nobodies_14 : decode cX5_nobodies 14 = .ok (.invokevirtual 88, 3) := by decide +kernel
theorem dX5_nobodies_17 : decode cX5_nobodies 17 = .ok (.ifCond .ne 9, 3) := by decide +kernel
theorem dX5_nobodies_20 : decode cX5_nobodies 20 = .ok (.iload_n 1, 1) := by decide +kernel
theorem dX5_nobodies_21 : decode cX5_nobodies 21 = .ok (.iconst 1, 1) := by decide +kernel
theorem dX5_nobodies_22 : decode cX5_nobodies 22 = .ok (.iload_n 2, 1) := by decide +kernel
theorem dX5_nobodies_23 : decode cX5_nobodies 23 = .ok (.ishl, 1) := by decide +kernel
theorem dX5_nobodies_24 : decode cX5_nobodies 24 = .ok (.ior, 1) := by decide +kernel
theorem dX5_nobodies_25 : decode cX5_nobodies 25 = .ok (.istore_n 1, 1) := by decide +kernel
theorem dX5_nobodies_26 : decode cX5_nobodies 26 = .ok (.iinc 2 1, 3) := by decide +kernel
theorem dX5_nobodies_29 : decode cX5_nobodies 29 = .ok (.goto (-25), 3) := by decide +kernel
theorem dX5_nobodies_32 : decode cX5_nobodies 32 = .ok (.iload_n 1, 1) := by decide +kernel
theorem dX5_nobodies_33 : decode cX5_nobodies 33 = .ok (.ireturn, 1) := by decide +kernel
theorem dX5_stepsBackTo_0 : decode cX5_stepsBackTo 0 = .ok (.iload_n 1, 1) := by decide +kernel
theorem dX5_stepsBackTo_1 : decode cX5_stepsBackTo 1 = .ok (.istore_n 2, 1) := by decide +kernel
theorem dX5_stepsBackTo_2 : decode cX5_stepsBackTo 2 = .ok (.iconst 1, 1) := by decide +kernel
theorem dX5_stepsBackTo_3 : decode cX5_stepsBackTo 3 = .ok (.istore_n 3, 1) := by decide +kernel
theorem dX5_stepsBackTo_4 : decode cX5_stepsBackTo 4 = .ok (.iload_n 3, 1) := by decide +kernel
theorem dX5_stepsBackTo_5 : decode cX5_stepsBackTo 5 = .ok (.aload_n 0, 1) := by decide +kernel
theorem dX5_stepsBackTo_6 : decode cX5_stepsBackTo 6 = .ok (.getfield 30, 3) := by decide +kernel
theorem dX5_stepsBackTo_9 : decode cX5_stepsBackTo 9 = .ok (.if_icmp .gt 22, 3) := by decide +kernel
theorem dX5_stepsBackTo_12 : decode cX5_stepsBackTo 12 = .ok (.aload_n 0, 1) := by decide +kernel
theorem dX5_stepsBackTo_13 : decode cX5_stepsBackTo 13 = .ok (.iload_n 2, 1) := by decide +kernel
theorem dX5_stepsBackTo_14 : decode cX5_stepsBackTo 14 = .ok (.invokevirtual 85, 3) := by decide +kernel
theorem dX5_stepsBackTo_17 : decode cX5_stepsBackTo 17 = .ok (.istore_n 2, 1) := by decide +kernel
theorem dX5_stepsBackTo_18 : decode cX5_stepsBackTo 18 = .ok (.iload_n 2, 1) := by decide +kernel
theorem dX5_stepsBackTo_19 : decode cX5_stepsBackTo 19 = .ok (.iload_n 1, 1) := by decide +kernel
theorem dX5_stepsBackTo_20 : decode cX5_stepsBackTo 20 = .ok (.if_icmp .ne 5, 3) := by decide +kernel
theorem dX5_stepsBackTo_23 : decode cX5_stepsBackTo 23 = .ok (.iload_n 3, 1) := by decide +kernel
theorem dX5_stepsBackTo_24 : decode cX5_stepsBackTo 24 = .ok (.ireturn, 1) := by decide +kernel
theorem dX5_stepsBackTo_25 : decode cX5_stepsBackTo 25 = .ok (.iinc 3 1, 3) := by decide +kernel
theorem dX5_stepsBackTo_28 : decode cX5_stepsBackTo 28 = .ok (.goto (-24), 3) := by decide +kernel
theorem dX5_stepsBackTo_31 : decode cX5_stepsBackTo 31 = .ok (.iconst (-1), 1) := by decide +kernel
theorem dX5_stepsBackTo_32 : decode cX5_stepsBackTo 32 = .ok (.ireturn, 1) := by decide +kernel
theorem dX5_countInRings_0 : decode cX5_countInRings 0 = .ok (.iconst 0, 1) := by decide +kernel
theorem dX5_countInRings_1 : decode cX5_countInRings 1 = .ok (.istore_n 1, 1) := by decide +kernel
theorem dX5_countInRings_2 : decode cX5_countInRings 2 = .ok (.iconst 0, 1) := by decide +kernel
theorem dX5_countInRings_3 : decode cX5_countInRings 3 = .ok (.istore_n 2, 1) := by decide +kernel
theorem dX5_countInRings_4 : decode cX5_countInRings 4 = .ok (.iload_n 2, 1) := by decide +kernel
theorem dX5_countInRings_5 : decode cX5_countInRings 5 = .ok (.aload_n 0, 1) := by decide +kernel
theorem dX5_countInRings_6 : decode cX5_countInRings 6 = .ok (.getfield 30, 3) := by decide +kernel
theorem dX5_countInRings_9 : decode cX5_countInRings 9 = .ok (.if_icmp .ge 21, 3) := by decide +kernel
theorem dX5_countInRings_12 : decode cX5_countInRings 12 = .ok (.aload_n 0, 1) := by decide +kernel
theorem dX5_countInRings_13 : decode cX5_countInRings 13 = .ok (.iload_n 2, 1) := by decide +kernel
theorem dX5_countInRings_14 : decode cX5_countInRings 14 = .ok (.invokevirtual 91, 3) := by decide +kernel
theorem dX5_countInRings_17 : decode cX5_countInRings 17 = .ok (.iconst 1, 1) := by decide +kernel
theorem dX5_countInRings_18 : decode cX5_countInRings 18 = .ok (.if_icmp .le 6, 3) := by decide +kernel
theorem dX5_countInRings_21 : decode cX5_countInRings 21 = .ok (.iinc 1 1, 3) := by decide +kernel
theorem dX5_countInRings_24 : decode cX5_countInRings 24 = .ok (.iinc 2 1, 3) := by decide +kernel
theorem dX5_countInRings_27 : decode cX5_countInRings 27 = .ok (.goto (-23), 3) := by decide +kernel
theorem dX5_countInRings_30 : decode cX5_countInRings 30 = .ok (.iload_n 1, 1) := by decide +kernel
theorem dX5_countInRings_31 : decode cX5_countInRings 31 = .ok (.ireturn, 1) := by decide +kernel
theorem dX5_countAstray_0 : decode cX5_countAstray 0 = .ok (.iconst 0, 1) := by decide +kernel
theorem dX5_countAstray_1 : decode cX5_countAstray 1 = .ok (.istore_n 1, 1) := by decide +kernel
theorem dX5_countAstray_2 : decode cX5_countAstray 2 = .ok (.iconst 0, 1) := by decide +kernel
theorem dX5_countAstray_3 : decode cX5_countAstray 3 = .ok (.istore_n 2, 1) := by decide +kernel
theorem dX5_countAstray_4 : decode cX5_countAstray 4 = .ok (.iload_n 2, 1) := by decide +kernel
theorem dX5_countAstray_5 : decode cX5_countAstray 5 = .ok (.aload_n 0, 1) := by decide +kernel
theorem dX5_countAstray_6 : decode cX5_countAstray 6 = .ok (.getfield 30, 3) := by decide +kernel
theorem dX5_countAstray_9 : decode cX5_countAstray 9 = .ok (.if_icmp .ge 21, 3) := by decide +kernel
theorem dX5_countAstray_12 : decode cX5_countAstray 12 = .ok (.aload_n 0, 1) := by decide +kernel
theorem dX5_countAstray_13 : decode cX5_countAstray 13 = .ok (.iload_n 2, 1) := by decide +kernel
theorem dX5_countAstray_14 : decode cX5_countAstray 14 = .ok (.invokevirtual 85, 3) := by decide +kernel
theorem dX5_countAstray_17 : decode cX5_countAstray 17 = .ok (.iload_n 2, 1) := by decide +kernel
theorem dX5_countAstray_18 : decode cX5_countAstray 18 = .ok (.if_icmp .eq 6, 3) := by decide +kernel
theorem dX5_countAstray_21 : decode cX5_countAstray 21 = .ok (.iinc 1 1, 3) := by decide +kernel
theorem dX5_countAstray_24 : decode cX5_countAstray 24 = .ok (.iinc 2 1, 3) := by decide +kernel
theorem dX5_countAstray_27 : decode cX5_countAstray 27 = .ok (.goto (-23), 3) := by decide +kernel
theorem dX5_countAstray_30 : decode cX5_countAstray 30 = .ok (.iload_n 1, 1) := by decide +kernel
theorem dX5_countAstray_31 : decode cX5_countAstray 31 = .ok (.ireturn, 1) := by decide +kernel
theorem dX5_countAstrayAndKnown_0 : decode cX5_countAstrayAndKnown 0 = .ok (.iconst 0, 1) := by decide +kernel
theorem dX5_countAstrayAndKnown_1 : decode cX5_countAstrayAndKnown 1 = .ok (.istore_n 1, 1) := by decide +kernel
theorem dX5_countAstrayAndKnown_2 : decode cX5_countAstrayAndKnown 2 = .ok (.iconst 0, 1) := by decide +kernel
theorem dX5_countAstrayAndKnown_3 : decode cX5_countAstrayAndKnown 3 = .ok (.istore_n 2, 1) := by decide +kernel
theorem dX5_countAstrayAndKnown_4 : decode cX5_countAstrayAndKnown 4 = .ok (.iload_n 2, 1) := by decide +kernel
theorem dX5_countAstrayAndKnown_5 : decode cX5_countAstrayAndKnown 5 = .ok (.aload_n 0, 1) := by decide +kernel
theorem dX5_countAstrayAndKnown_6 : decode cX5_countAstrayAndKnown 6 = .ok (.getfield 30, 3) := by decide +kernel
theorem dX5_countAstrayAndKnown_9 : decode cX5_countAstrayAndKnown 9 = .ok (.if_icmp .ge 29, 3) := by decide +kernel
theorem dX5_countAstrayAndKnown_12 : decode cX5_countAstrayAndKnown 12 = .ok (.aload_n 0, 1) := by decide +kernel
theorem dX5_countAstrayAndKnown_13 : decode cX5_countAstrayAndKnown 13 = .ok (.iload_n 2, 1) := by decide +kernel
theorem dX5_countAstrayAndKnown_14 : decode cX5_countAstrayAndKnown 14 = .ok (.invokevirtual 85, 3) := by decide +kernel
theorem dX5_countAstrayAndKnown_17 : decode cX5_countAstrayAndKnown 17 = .ok (.iload_n 2, 1) := by decide +kernel
theorem dX5_countAstrayAndKnown_18 : decode cX5_countAstrayAndKnown 18 = .ok (.if_icmp .eq 14, 3) := by decide +kernel
theorem dX5_countAstrayAndKnown_21 : decode cX5_countAstrayAndKnown 21 = .ok (.aload_n 0, 1) := by decide +kernel
theorem dX5_countAstrayAndKnown_22 : decode cX5_countAstrayAndKnown 22 = .ok (.iload_n 2, 1) := by decide +kernel
theorem dX5_countAstrayAndKnown_23 : decode cX5_countAstrayAndKnown 23 = .ok (.invokevirtual 94, 3) := by decide +kernel
theorem dX5_countAstrayAndKnown_26 : decode cX5_countAstrayAndKnown 26 = .ok (.ifCond .eq 6, 3) := by decide +kernel
theorem dX5_countAstrayAndKnown_29 : decode cX5_countAstrayAndKnown 29 = .ok (.iinc 1 1, 3) := by decide +kernel
theorem dX5_countAstrayAndKnown_32 : decode cX5_countAstrayAndKnown 32 = .ok (.iinc 2 1, 3) := by decide +kernel
theorem dX5_countAstrayAndKnown_35 : decode cX5_countAstrayAndKnown 35 = .ok (.goto (-31), 3) := by decide +kernel
theorem dX5_countAstrayAndKnown_38 : decode cX5_countAstrayAndKnown 38 = .ok (.iload_n 1, 1) := by decide +kernel
theorem dX5_countAstrayAndKnown_39 : decode cX5_countAstrayAndKnown 39 = .ok (.ireturn, 1) := by decide +kernel
theorem dX5_isFaded_0 : decode cX5_isFaded 0 = .ok (.aload_n 0, 1) := by decide +kernel
theorem dX5_isFaded_1 : decode cX5_isFaded 1 = .ok (.iload_n 1, 1) := by decide +kernel
theorem dX5_isFaded_2 : decode cX5_isFaded 2 = .ok (.iload_n 2, 1) := by decide +kernel
theorem dX5_isFaded_3 : decode cX5_isFaded 3 = .ok (.invokevirtual 74, 3) := by decide +kernel
theorem dX5_isFaded_6 : decode cX5_isFaded 6 = .ok (.ifCond .eq 25, 3) := by decide +kernel
theorem dX5_isFaded_9 : decode cX5_isFaded 9 = .ok (.aload_n 0, 1) := by decide +kernel
theorem dX5_isFaded_10 : decode cX5_isFaded 10 = .ok (.iload_n 1, 1) := by decide +kernel
theorem dX5_isFaded_11 : decode cX5_isFaded 11 = .ok (.iload_n 2, 1) := by decide +kernel
theorem dX5_isFaded_12 : decode cX5_isFaded 12 = .ok (.invokevirtual 59, 3) := by decide +kernel
theorem dX5_isFaded_15 : decode cX5_isFaded 15 = .ok (.aload_n 0, 1) := by decide +kernel
theorem dX5_isFaded_16 : decode cX5_isFaded 16 = .ok (.iload_n 2, 1) := by decide +kernel
theorem dX5_isFaded_17 : decode cX5_isFaded 17 = .ok (.invokevirtual 63, 3) := by decide +kernel
theorem dX5_isFaded_20 : decode cX5_isFaded 20 = .ok (.invokestatic 97, 3) := by decide +kernel
theorem dX5_isFaded_23 : decode cX5_isFaded 23 = .ok (.iconst 3, 1) := by decide +kernel
theorem dX5_isFaded_24 : decode cX5_isFaded 24 = .ok (.if_icmp .lt 7, 3) := by decide +kernel
theorem dX5_isFaded_27 : decode cX5_isFaded 27 = .ok (.iconst 1, 1) := by decide +kernel
theorem dX5_isFaded_28 : decode cX5_isFaded 28 = .ok (.goto 4, 3) := by decide +kernel
theorem dX5_isFaded_31 : decode cX5_isFaded 31 = .ok (.iconst 0, 1) := by decide +kernel
theorem dX5_isFaded_32 : decode cX5_isFaded 32 = .ok (.ireturn, 1) := by decide +kernel
theorem dX5_fadedPair_0 : decode cX5_fadedPair 0 = .ok (.iconst 0, 1) := by decide +kernel
theorem dX5_fadedPair_1 : decode cX5_fadedPair 1 = .ok (.istore_n 2, 1) := by decide +kernel
theorem dX5_fadedPair_2 : decode cX5_fadedPair 2 = .ok (.iconst 0, 1) := by decide +kernel
theorem dX5_fadedPair_3 : decode cX5_fadedPair 3 = .ok (.istore_n 3, 1) := by decide +kernel
theorem dX5_fadedPair_4 : decode cX5_fadedPair 4 = .ok (.iload_n 3, 1) := by decide +kernel
theorem dX5_fadedPair_5 : decode cX5_fadedPair 5 = .ok (.aload_n 0, 1) := by decide +kernel
theorem dX5_fadedPair_6 : decode cX5_fadedPair 6 = .ok (.getfield 30, 3) := by decide +kernel
theorem dX5_fadedPair_9 : decode cX5_fadedPair 9 = .ok (.if_icmp .ge 53, 3) := by decide +kernel
theorem dX5_fadedPair_12 : decode cX5_fadedPair 12 = .ok (.iconst 0, 1) := by decide +kernel
theorem dX5_fadedPair_13 : decode cX5_fadedPair 13 = .ok (.istore 4, 2) := by decide +kernel
theorem dX5_fadedPair_15 : decode cX5_fadedPair 15 = .ok (.iload 4, 2) := by decide +kernel
theorem dX5_fadedPair_17 : decode cX5_fadedPair 17 = .ok (.aload_n 0, 1) := by decide +kernel
theorem dX5_fadedPair_18 : decode cX5_fadedPair 18 = .ok (.getfield 30, 3) := by decide +kernel
theorem dX5_fadedPair_21 : decode cX5_fadedPair 21 = .ok (.if_icmp .ge 35, 3) := by decide +kernel
theorem dX5_fadedPair_24 : decode cX5_fadedPair 24 = .ok (.aload_n 0, 1) := by decide +kernel
theorem dX5_fadedPair_25 : decode cX5_fadedPair 25 = .ok (.iload_n 3, 1) := by decide +kernel
theorem dX5_fadedPair_26 : decode cX5_fadedPair 26 = .ok (.iload 4, 2) := by decide +kernel
theorem dX5_fadedPair_28 : decode cX5_fadedPair 28 = .ok (.invokevirtual 102, 3) := by decide +kernel
theorem dX5_fadedPair_31 : decode cX5_fadedPair 31 = .ok (.ifCond .eq 19, 3) := by decide +kernel
theorem dX5_fadedPair_34 : decode cX5_fadedPair 34 = .ok (.iload_n 2, 1) := by decide +kernel
theorem dX5_fadedPair_35 : decode cX5_fadedPair 35 = .ok (.iload_n 1, 1) := by decide +kernel
theorem dX5_fadedPair_36 : decode cX5_fadedPair 36 = .ok (.if_icmp .ne 11, 3) := by decide +kernel
theorem dX5_fadedPair_39 : decode cX5_fadedPair 39 = .ok (.bipush 10, 2) := by decide +kernel
theorem dX5_fadedPair_41 : decode cX5_fadedPair 41 = .ok (.iload_n 3, 1) := by decide +kernel
theorem dX5_fadedPair_42 : decode cX5_fadedPair 42 = .ok (.imul, 1) := by decide +kernel
theorem dX5_fadedPair_43 : decode cX5_fadedPair 43 = .ok (.iload 4, 2) := by decide +kernel
theorem dX5_fadedPair_45 : decode cX5_fadedPair 45 = .ok (.iadd, 1) := by decide +kernel
theorem dX5_fadedPair_46 : decode cX5_fadedPair 46 = .ok (.ireturn, 1) := by decide +kernel
theorem dX5_fadedPair_47 : decode cX5_fadedPair 47 = .ok (.iinc 2 1, 3) := by decide +kernel
theorem dX5_fadedPair_50 : decode cX5_fadedPair 50 = .ok (.iinc 4 1, 3) := by decide +kernel
theorem dX5_fadedPair_53 : decode cX5_fadedPair 53 = .ok (.goto (-38), 3) := by decide +kernel
theorem dX5_fadedPair_56 : decode cX5_fadedPair 56 = .ok (.iinc 3 1, 3) := by decide +kernel
theorem dX5_fadedPair_59 : decode cX5_fadedPair 59 = .ok (.goto (-55), 3) := by decide +kernel
theorem dX5_fadedPair_62 : decode cX5_fadedPair 62 = .ok (.iload_n 1, 1) := by decide +kernel
theorem dX5_fadedPair_63 : decode cX5_fadedPair 63 = .ok (.iconst (-1), 1) := by decide +kernel
theorem dX5_fadedPair_64 : decode cX5_fadedPair 64 = .ok (.if_icmp .ne 7, 3) := by decide +kernel
theorem dX5_fadedPair_67 : decode cX5_fadedPair 67 = .ok (.iload_n 2, 1) := by decide +kernel
theorem dX5_fadedPair_68 : decode cX5_fadedPair 68 = .ok (.goto 4, 3) := by decide +kernel
theorem dX5_fadedPair_71 : decode cX5_fadedPair 71 = .ok (.iconst (-1), 1) := by decide +kernel
theorem dX5_fadedPair_72 : decode cX5_fadedPair 72 = .ok (.ireturn, 1) := by decide +kernel
theorem dX5_firstTwins_0 : decode cX5_firstTwins 0 = .ok (.iconst 0, 1) := by decide +kernel
theorem dX5_firstTwins_1 : decode cX5_firstTwins 1 = .ok (.istore_n 1, 1) := by decide +kernel
theorem dX5_firstTwins_2 : decode cX5_firstTwins 2 = .ok (.iload_n 1, 1) := by decide +kernel
theorem dX5_firstTwins_3 : decode cX5_firstTwins 3 = .ok (.aload_n 0, 1) := by decide +kernel
theorem dX5_firstTwins_4 : decode cX5_firstTwins 4 = .ok (.getfield 30, 3) := by decide +kernel
theorem dX5_firstTwins_7 : decode cX5_firstTwins 7 = .ok (.if_icmp .ge 47, 3) := by decide +kernel
theorem dX5_firstTwins_10 : decode cX5_firstTwins 10 = .ok (.iload_n 1, 1) := by decide +kernel
theorem dX5_firstTwins_11 : decode cX5_firstTwins 11 = .ok (.iconst 1, 1) := by decide +kernel
theorem dX5_firstTwins_12 : decode cX5_firstTwins 12 = .ok (.iadd, 1) := by decide +kernel
theorem dX5_firstTwins_13 : decode cX5_firstTwins 13 = .ok (.istore_n 2, 1) := by decide +kernel
theorem dX5_firstTwins_14 : decode cX5_firstTwins 14 = .ok (.iload_n 2, 1) := by decide +kernel
theorem dX5_firstTwins_15 : decode cX5_firstTwins 15 = .ok (.aload_n 0, 1) := by decide +kernel
theorem dX5_firstTwins_16 : decode cX5_firstTwins 16 = .ok (.getfield 30, 3) := by decide +kernel
theorem dX5_firstTwins_19 : decode cX5_firstTwins 19 = .ok (.if_icmp .ge 29, 3) := by decide +kernel
theorem dX5_firstTwins_22 : decode cX5_firstTwins 22 = .ok (.aload_n 0, 1) := by decide +kernel
theorem dX5_firstTwins_23 : decode cX5_firstTwins 23 = .ok (.iload_n 1, 1) := by decide +kernel
theorem dX5_firstTwins_24 : decode cX5_firstTwins 24 = .ok (.invokevirtual 63, 3) := by decide +kernel
theorem dX5_firstTwins_27 : decode cX5_firstTwins 27 = .ok (.aload_n 0, 1) := by decide +kernel
theorem dX5_firstTwins_28 : decode cX5_firstTwins 28 = .ok (.iload_n 2, 1) := by decide +kernel
theorem dX5_firstTwins_29 : decode cX5_firstTwins 29 = .ok (.invokevirtual 63, 3) := by decide +kernel
theorem dX5_firstTwins_32 : decode cX5_firstTwins 32 = .ok (.if_icmp .ne 10, 3) := by decide +kernel
theorem dX5_firstTwins_35 : decode cX5_firstTwins 35 = .ok (.bipush 10, 2) := by decide +kernel
theorem dX5_firstTwins_37 : decode cX5_firstTwins 37 = .ok (.iload_n 1, 1) := by decide +kernel
theorem dX5_firstTwins_38 : decode cX5_firstTwins 38 = .ok (.imul, 1) := by decide +kernel
theorem dX5_firstTwins_39 : decode cX5_firstTwins 39 = .ok (.iload_n 2, 1) := by decide +kernel
theorem dX5_firstTwins_40 : decode cX5_firstTwins 40 = .ok (.iadd, 1) := by decide +kernel
theorem dX5_firstTwins_41 : decode cX5_firstTwins 41 = .ok (.ireturn, 1) := by decide +kernel
theorem dX5_firstTwins_42 : decode cX5_firstTwins 42 = .ok (.iinc 2 1, 3) := by decide +kernel
theorem dX5_firstTwins_45 : decode cX5_firstTwins 45 = .ok (.goto (-31), 3) := by decide +kernel
theorem dX5_firstTwins_48 : decode cX5_firstTwins 48 = .ok (.iinc 1 1, 3) := by decide +kernel
theorem dX5_firstTwins_51 : decode cX5_firstTwins 51 = .ok (.goto (-49), 3) := by decide +kernel
theorem dX5_firstTwins_54 : decode cX5_firstTwins 54 = .ok (.iconst (-1), 1) := by decide +kernel
theorem dX5_firstTwins_55 : decode cX5_firstTwins 55 = .ok (.ireturn, 1) := by decide +kernel
theorem dX6_surest_0 : decode cX6_surest 0 = .ok (.aload_n 0, 1) := by decide +kernel
theorem dX6_surest_1 : decode cX6_surest 1 = .ok (.iload_n 1, 1) := by decide +kernel
theorem dX6_surest_2 : decode cX6_surest 2 = .ok (.iload_n 2, 1) := by decide +kernel
theorem dX6_surest_3 : decode cX6_surest 3 = .ok (.invokevirtual 9, 3) := by decide +kernel
theorem dX6_surest_6 : decode cX6_surest 6 = .ok (.istore 4, 2) := by decide +kernel
theorem dX6_surest_8 : decode cX6_surest 8 = .ok (.iconst (-1), 1) := by decide +kernel
theorem dX6_surest_9 : decode cX6_surest 9 = .ok (.istore 5, 2) := by decide +kernel
theorem dX6_surest_11 : decode cX6_surest 11 = .ok (.iconst 0, 1) := by decide +kernel
theorem dX6_surest_12 : decode cX6_surest 12 = .ok (.istore 6, 2) := by decide +kernel
theorem dX6_surest_14 : decode cX6_surest 14 = .ok (.aload_n 0, 1) := by decide +kernel
theorem dX6_surest_15 : decode cX6_surest 15 = .ok (.invokevirtual 15, 3) := by decide +kernel
theorem dX6_surest_18 : decode cX6_surest 18 = .ok (.istore 7, 2) := by decide +kernel
theorem dX6_surest_20 : decode cX6_surest 20 = .ok (.iconst 0, 1) := by decide +kernel
theorem dX6_surest_21 : decode cX6_surest 21 = .ok (.istore 8, 2) := by decide +kernel
theorem dX6_surest_23 : decode cX6_surest 23 = .ok (.iload 8, 2) := by decide +kernel
theorem dX6_surest_25 : decode cX6_surest 25 = .ok (.iload 7, 2) := by decide +kernel
theorem dX6_surest_27 : decode cX6_surest 27 = .ok (.if_icmp .gt 46, 3) := by decide +kernel
theorem dX6_surest_30 : decode cX6_surest 30 = .ok (.iload 8, 2) := by decide +kernel
theorem dX6_surest_32 : decode cX6_surest 32 = .ok (.iload_n 1, 1) := by decide +kernel
theorem dX6_surest_33 : decode cX6_surest 33 = .ok (.iload_n 2, 1) := by decide +kernel
theorem dX6_surest_34 : decode cX6_surest 34 = .ok (.iload_n 3, 1) := by decide +kernel
theorem dX6_surest_35 : decode cX6_surest 35 = .ok (.invokestatic 19, 3) := by decide +kernel
theorem dX6_surest_38 : decode cX6_surest 38 = .ok (.ifCond .eq 29, 3) := by decide +kernel
theorem dX6_surest_41 : decode cX6_surest 41 = .ok (.aload_n 0, 1) := by decide +kernel
theorem dX6_surest_42 : decode cX6_surest 42 = .ok (.iload 4, 2) := by decide +kernel
theorem dX6_surest_44 : decode cX6_surest 44 = .ok (.iload 8, 2) := by decide +kernel
theorem dX6_surest_46 : decode cX6_surest 46 = .ok (.iload_n 2, 1) := by decide +kernel
theorem dX6_surest_47 : decode cX6_surest 47 = .ok (.invokestatic 25, 3) := by decide +kernel
theorem dX6_surest_50 : decode cX6_surest 50 = .ok (.istore 9, 2) := by decide +kernel
theorem dX6_surest_52 : decode cX6_surest 52 = .ok (.iload 9, 2) := by decide +kernel
theorem dX6_surest_54 : decode cX6_surest 54 = .ok (.iload 6, 2) := by decide +kernel
theorem dX6_surest_56 : decode cX6_surest 56 = .ok (.if_icmp .le 11, 3) := by decide +kernel
theorem dX6_surest_59 : decode cX6_surest 59 = .ok (.iload 9, 2) := by decide +kernel
theorem dX6_surest_61 : decode cX6_surest 61 = .ok (.istore 6, 2) := by decide +kernel
theorem dX6_surest_63 : decode cX6_surest 63 = .ok (.iload 8, 2) := by decide +kernel
theorem dX6_surest_65 : decode cX6_surest 65 = .ok (.istore 5, 2) := by decide +kernel
theorem dX6_surest_67 : decode cX6_surest 67 = .ok (.iinc 8 1, 3) := by decide +kernel
theorem dX6_surest_70 : decode cX6_surest 70 = .ok (.goto (-47), 3) := by decide +kernel
theorem dX6_surest_73 : decode cX6_surest 73 = .ok (.iload 5, 2) := by decide +kernel
theorem dX6_surest_75 : decode cX6_surest 75 = .ok (.ireturn, 1) := by decide +kernel
theorem dX6_surestWitness_0 : decode cX6_surestWitness 0 = .ok (.iconst (-1), 1) := by decide +kernel
theorem dX6_surestWitness_1 : decode cX6_surestWitness 1 = .ok (.istore_n 3, 1) := by decide +kernel
theorem dX6_surestWitness_2 : decode cX6_surestWitness 2 = .ok (.iconst 0, 1) := by decide +kernel
theorem dX6_surestWitness_3 : decode cX6_surestWitness 3 = .ok (.istore 4, 2) := by decide +kernel
theorem dX6_surestWitness_5 : decode cX6_surestWitness 5 = .ok (.iconst 0, 1) := by decide +kernel
theorem dX6_surestWitness_6 : decode cX6_surestWitness 6 = .ok (.istore 5, 2) := by decide +kernel
theorem dX6_surestWitness_8 : decode cX6_surestWitness 8 = .ok (.iload 5, 2) := by decide +kernel
theorem dX6_surestWitness_10 : decode cX6_surestWitness 10 = .ok (.aload_n 0, 1) := by decide +kernel
theorem dX6_surestWitness_11 : decode cX6_surestWitness 11 = .ok (.getfield 31, 3) := by decide +kernel
theorem dX6_surestWitness_14 : decode cX6_surestWitness 14 = .ok (.if_icmp .ge 57, 3) := by decide +kernel
theorem dX6_surestWitness_17 : decode cX6_surestWitness 17 = .ok (.aload_n 0, 1) := by decide +kernel
theorem dX6_surestWitness_18 : decode cX6_surestWitness 18 = .ok (.iload 5, 2) := by decide +kernel
theorem dX6_surestWitness_20 : decode cX6_surestWitness 20 = .ok (.iload_n 1, 1) := by decide +kernel
theorem dX6_surestWitness_21 : decode cX6_surestWitness 21 = .ok (.invokevirtual 35, 3) := by decide +kernel
theorem dX6_surestWitness_24 : decode cX6_surestWitness 24 = .ok (.ifCond .eq 41, 3) := by decide +kernel
theorem dX6_surestWitness_27 : decode cX6_surestWitness 27 = .ok (.iload_n 2, 1) := by decide +kernel
theorem dX6_surestWitness_28 : decode cX6_surestWitness 28 = .ok (.iload 5, 2) := by decide +kernel
theorem dX6_surestWitness_30 : decode cX6_surestWitness 30 = .ok (.invokestatic 39, 3) := by decide +kernel
theorem dX6_surestWitness_33 : decode cX6_surestWitness 33 = .ok (.ifCond .ne 32, 3) := by decide +kernel
theorem dX6_surestWitness_36 : decode cX6_surestWitness 36 = .ok (.aload_n 0, 1) := by decide +kernel
theorem dX6_surestWitness_37 : decode cX6_surestWitness 37 = .ok (.aload_n 0, 1) := by decide +kernel
theorem dX6_surestWitness_38 : decode cX6_surestWitness 38 = .ok (.iload 5, 2) := by decide +kernel
theorem dX6_surestWitness_40 : decode cX6_surestWitness 40 = .ok (.iload_n 1, 1) := by decide +kernel
theorem dX6_surestWitness_41 : decode cX6_surestWitness 41 = .ok (.invokevirtual 9, 3) := by decide +kernel
theorem dX6_surestWitness_44 : decode cX6_surestWitness 44 = .ok (.iload_n 2, 1) := by decide +kernel
theorem dX6_surestWitness_45 : decode cX6_surestWitness 45 = .ok (.iload_n 1, 1) := by decide +kernel
theorem dX6_surestWitness_46 : decode cX6_surestWitness 46 = .ok (.invokestatic 25, 3) := by decide +kernel
theorem dX6_surestWitness_49 : decode cX6_surestWitness 49 = .ok (.istore 6, 2) := by decide +kernel
theorem dX6_surestWitness_51 : decode cX6_surestWitness 51 = .ok (.iload 6, 2) := by decide +kernel
theorem dX6_surestWitness_53 : decode cX6_surestWitness 53 = .ok (.iload 4, 2) := by decide +kernel
theorem dX6_surestWitness_55 : decode cX6_surestWitness 55 = .ok (.if_icmp .le 10, 3) := by decide +kernel
theorem dX6_surestWitness_58 : decode cX6_surestWitness 58 = .ok (.iload 6, 2) := by decide +kernel
theorem dX6_surestWitness_60 : decode cX6_surestWitness 60 = .ok (.istore 4, 2) := by decide +kernel
theorem dX6_surestWitness_62 : decode cX6_surestWitness 62 = .ok (.iload 5, 2) := by decide +kernel
theorem dX6_surestWitness_64 : decode cX6_surestWitness 64 = .ok (.istore_n 3, 1) := by decide +kernel
theorem dX6_surestWitness_65 : decode cX6_surestWitness 65 = .ok (.iinc 5 1, 3) := by decide +kernel
theorem dX6_surestWitness_68 : decode cX6_surestWitness 68 = .ok (.goto (-60), 3) := by decide +kernel
theorem dX6_surestWitness_71 : decode cX6_surestWitness 71 = .ok (.iload_n 3, 1) := by decide +kernel
theorem dX6_surestWitness_72 : decode cX6_surestWitness 72 = .ok (.ireturn, 1) := by decide +kernel
theorem dX6_fewestMarks_0 : decode cX6_fewestMarks 0 = .ok (.aload_n 0, 1) := by decide +kernel
theorem dX6_fewestMarks_1 : decode cX6_fewestMarks 1 = .ok (.iload_n 1, 1) := by decide +kernel
theorem dX6_fewestMarks_2 : decode cX6_fewestMarks 2 = .ok (.iload_n 2, 1) := by decide +kernel
theorem dX6_fewestMarks_3 : decode cX6_fewestMarks 3 = .ok (.iconst 1, 1) := by decide +kernel
theorem dX6_fewestMarks_4 : decode cX6_fewestMarks 4 = .ok (.iload_n 3, 1) := by decide +kernel
theorem dX6_fewestMarks_5 : decode cX6_fewestMarks 5 = .ok (.ishl, 1) := by decide +kernel
theorem dX6_fewestMarks_6 : decode cX6_fewestMarks 6 = .ok (.iconst (-1), 1) := by decide +kernel
theorem dX6_fewestMarks_7 : decode cX6_fewestMarks 7 = .ok (.ixor, 1) := by decide +kernel
theorem dX6_fewestMarks_8 : decode cX6_fewestMarks 8 = .ok (.iand, 1) := by decide +kernel
theorem dX6_fewestMarks_9 : decode cX6_fewestMarks 9 = .ok (.invokestatic 42, 3) := by decide +kernel
theorem dX6_fewestMarks_12 : decode cX6_fewestMarks 12 = .ok (.istore 5, 2) := by decide +kernel
theorem dX6_fewestMarks_14 : decode cX6_fewestMarks 14 = .ok (.iconst (-1), 1) := by decide +kernel
theorem dX6_fewestMarks_15 : decode cX6_fewestMarks 15 = .ok (.istore 6, 2) := by decide +kernel
theorem dX6_fewestMarks_17 : decode cX6_fewestMarks 17 = .ok (.bipush 9, 2) := by decide +kernel
theorem dX6_fewestMarks_19 : decode cX6_fewestMarks 19 = .ok (.istore 7, 2) := by decide +kernel
theorem dX6_fewestMarks_21 : decode cX6_fewestMarks 21 = .ok (.iconst 0, 1) := by decide +kernel
theorem dX6_fewestMarks_22 : decode cX6_fewestMarks 22 = .ok (.istore 8, 2) := by decide +kernel
theorem dX6_fewestMarks_24 : decode cX6_fewestMarks 24 = .ok (.iload 8, 2) := by decide +kernel
theorem dX6_fewestMarks_26 : decode cX6_fewestMarks 26 = .ok (.sipush 255, 3) := by decide +kernel
theorem dX6_fewestMarks_29 : decode cX6_fewestMarks 29 = .ok (.if_icmp .gt 52, 3) := by decide +kernel
theorem dX6_fewestMarks_32 : decode cX6_fewestMarks 32 = .ok (.iload 8, 2) := by decide +kernel
theorem dX6_fewestMarks_34 : decode cX6_fewestMarks 34 = .ok (.invokestatic 46, 3) := by decide +kernel
theorem dX6_fewestMarks_37 : decode cX6_fewestMarks 37 = .ok (.istore 9, 2) := by decide +kernel
theorem dX6_fewestMarks_39 : decode cX6_fewestMarks 39 = .ok (.iload 9, 2) := by decide +kernel
theorem dX6_fewestMarks_41 : decode cX6_fewestMarks 41 = .ok (.iload 7, 2) := by decide +kernel
theorem dX6_fewestMarks_43 : decode cX6_fewestMarks 43 = .ok (.if_icmp .ge 32, 3) := by decide +kernel
theorem dX6_fewestMarks_46 : decode cX6_fewestMarks 46 = .ok (.aload_n 0, 1) := by decide +kernel
theorem dX6_fewestMarks_47 : decode cX6_fewestMarks 47 = .ok (.iload_n 1, 1) := by decide +kernel
theorem dX6_fewestMarks_48 : decode cX6_fewestMarks 48 = .ok (.iload_n 3, 1) := by decide +kernel
theorem dX6_fewestMarks_49 : decode cX6_fewestMarks 49 = .ok (.aload_n 0, 1) := by decide +kernel
theorem dX6_fewestMarks_50 : decode cX6_fewestMarks 50 = .ok (.iload_n 3, 1) := by decide +kernel
theorem dX6_fewestMarks_51 : decode cX6_fewestMarks 51 = .ok (.invokevirtual 52, 3) := by decide +kernel
theorem dX6_fewestMarks_54 : decode cX6_fewestMarks 54 = .ok (.iload 8, 2) := by decide +kernel
theorem dX6_fewestMarks_56 : decode cX6_fewestMarks 56 = .ok (.ixor, 1) := by decide +kernel
theorem dX6_fewestMarks_57 : decode cX6_fewestMarks 57 = .ok (.iload 5, 2) := by decide +kernel
theorem dX6_fewestMarks_59 : decode cX6_fewestMarks 59 = .ok (.invokestatic 55, 3) := by decide +kernel
theorem dX6_fewestMarks_62 : decode cX6_fewestMarks 62 = .ok (.iload 4, 2) := by decide +kernel
theorem dX6_fewestMarks_64 : decode cX6_fewestMarks 64 = .ok (.if_icmp .lt 11, 3) := by decide +kernel
theorem dX6_fewestMarks_67 : decode cX6_fewestMarks 67 = .ok (.iload 9, 2) := by decide +kernel
theorem dX6_fewestMarks_69 : decode cX6_fewestMarks 69 = .ok (.istore 7, 2) := by decide +kernel
theorem dX6_fewestMarks_71 : decode cX6_fewestMarks 71 = .ok (.iload 8, 2) := by decide +kernel
theorem dX6_fewestMarks_73 : decode cX6_fewestMarks 73 = .ok (.istore 6, 2) := by decide +kernel
theorem dX6_fewestMarks_75 : decode cX6_fewestMarks 75 = .ok (.iinc 8 1, 3) := by decide +kernel
theorem dX6_fewestMarks_78 : decode cX6_fewestMarks 78 = .ok (.goto (-54), 3) := by decide +kernel
theorem dX6_fewestMarks_81 : decode cX6_fewestMarks 81 = .ok (.iload 6, 2) := by decide +kernel
theorem dX6_fewestMarks_83 : decode cX6_fewestMarks 83 = .ok (.ireturn, 1) := by decide +kernel
theorem dX6_countPicking_0 : decode cX6_countPicking 0 = .ok (.iconst 0, 1) := by decide +kernel
theorem dX6_countPicking_1 : decode cX6_countPicking 1 = .ok (.istore 5, 2) := by decide +kernel
theorem dX6_countPicking_3 : decode cX6_countPicking 3 = .ok (.aload_n 0, 1) := by decide +kernel
theorem dX6_countPicking_4 : decode cX6_countPicking 4 = .ok (.invokevirtual 15, 3) := by decide +kernel
theorem dX6_countPicking_7 : decode cX6_countPicking 7 = .ok (.istore 6, 2) := by decide +kernel
theorem dX6_countPicking_9 : decode cX6_countPicking 9 = .ok (.iconst 0, 1) := by decide +kernel
theorem dX6_countPicking_10 : decode cX6_countPicking 10 = .ok (.istore 7, 2) := by decide +kernel
theorem dX6_countPicking_12 : decode cX6_countPicking 12 = .ok (.iload 7, 2) := by decide +kernel
theorem dX6_countPicking_14 : decode cX6_countPicking 14 = .ok (.iload 6, 2) := by decide +kernel
theorem dX6_countPicking_16 : decode cX6_countPicking 16 = .ok (.if_icmp .gt 35, 3) := by decide +kernel
theorem dX6_countPicking_19 : decode cX6_countPicking 19 = .ok (.iload 7, 2) := by decide +kernel
theorem dX6_countPicking_21 : decode cX6_countPicking 21 = .ok (.iload_n 2, 1) := by decide +kernel
theorem dX6_countPicking_22 : decode cX6_countPicking 22 = .ok (.iload_n 3, 1) := by decide +kernel
theorem dX6_countPicking_23 : decode cX6_countPicking 23 = .ok (.iload 4, 2) := by decide +kernel
theorem dX6_countPicking_25 : decode cX6_countPicking 25 = .ok (.invokestatic 19, 3) := by decide +kernel
theorem dX6_countPicking_28 : decode cX6_countPicking 28 = .ok (.ifCond .eq 17, 3) := by decide +kernel
theorem dX6_countPicking_31 : decode cX6_countPicking 31 = .ok (.aload_n 0, 1) := by decide +kernel
theorem dX6_countPicking_32 : decode cX6_countPicking 32 = .ok (.iload_n 1, 1) := by decide +kernel
theorem dX6_countPicking_33 : decode cX6_countPicking 33 = .ok (.iload 7, 2) := by decide +kernel
theorem dX6_countPicking_35 : decode cX6_countPicking 35 = .ok (.invokestatic 42, 3) := by decide +kernel
theorem dX6_countPicking_38 : decode cX6_countPicking 38 = .ok (.iload_n 3, 1) := by decide +kernel
theorem dX6_countPicking_39 : decode cX6_countPicking 39 = .ok (.if_icmp .ne 6, 3) := by decide +kernel
theorem dX6_countPicking_42 : decode cX6_countPicking 42 = .ok (.iinc 5 1, 3) := by decide +kernel
theorem dX6_countPicking_45 : decode cX6_countPicking 45 = .ok (.iinc 7 1, 3) := by decide +kernel
theorem dX6_countPicking_48 : decode cX6_countPicking 48 = .ok (.goto (-36), 3) := by decide +kernel
theorem dX6_countPicking_51 : decode cX6_countPicking 51 = .ok (.iload 5, 2) := by decide +kernel
theorem dX6_countPicking_53 : decode cX6_countPicking 53 = .ok (.ireturn, 1) := by decide +kernel
theorem dX6_leastPicking_0 : decode cX6_leastPicking 0 = .ok (.aload_n 0, 1) := by decide +kernel
theorem dX6_leastPicking_1 : decode cX6_leastPicking 1 = .ok (.invokevirtual 15, 3) := by decide +kernel
theorem dX6_leastPicking_4 : decode cX6_leastPicking 4 = .ok (.istore 5, 2) := by decide +kernel
theorem dX6_leastPicking_6 : decode cX6_leastPicking 6 = .ok (.iconst 0, 1) := by decide +kernel
theorem dX6_leastPicking_7 : decode cX6_leastPicking 7 = .ok (.istore 6, 2) := by decide +kernel
theorem dX6_leastPicking_9 : decode cX6_leastPicking 9 = .ok (.iload 6, 2) := by decide +kernel
theorem dX6_leastPicking_11 : decode cX6_leastPicking 11 = .ok (.iload 5, 2) := by decide +kernel
theorem dX6_leastPicking_13 : decode cX6_leastPicking 13 = .ok (.if_icmp .gt 35, 3) := by decide +kernel
theorem dX6_leastPicking_16 : decode cX6_leastPicking 16 = .ok (.iload 6, 2) := by decide +kernel
theorem dX6_leastPicking_18 : decode cX6_leastPicking 18 = .ok (.iload_n 2, 1) := by decide +kernel
theorem dX6_leastPicking_19 : decode cX6_leastPicking 19 = .ok (.iload_n 3, 1) := by decide +kernel
theorem dX6_leastPicking_20 : decode cX6_leastPicking 20 = .ok (.iload 4, 2) := by decide +kernel
theorem dX6_leastPicking_22 : decode cX6_leastPicking 22 = .ok (.invokestatic 19, 3) := by decide +kernel
theorem dX6_leastPicking_25 : decode cX6_leastPicking 25 = .ok (.ifCond .eq 17, 3) := by decide +kernel
theorem dX6_leastPicking_28 : decode cX6_leastPicking 28 = .ok (.aload_n 0, 1) := by decide +kernel
theorem dX6_leastPicking_29 : decode cX6_leastPicking 29 = .ok (.iload_n 1, 1) := by decide +kernel
theorem dX6_leastPicking_30 : decode cX6_leastPicking 30 = .ok (.iload 6, 2) := by decide +kernel
theorem dX6_leastPicking_32 : decode cX6_leastPicking 32 = .ok (.invokestatic 42, 3) := by decide +kernel
theorem dX6_leastPicking_35 : decode cX6_leastPicking 35 = .ok (.iload_n 3, 1) := by decide +kernel
theorem dX6_leastPicking_36 : decode cX6_leastPicking 36 = .ok (.if_icmp .ne 6, 3) := by decide +kernel
theorem dX6_leastPicking_39 : decode cX6_leastPicking 39 = .ok (.iload 6, 2) := by decide +kernel
theorem dX6_leastPicking_41 : decode cX6_leastPicking 41 = .ok (.ireturn, 1) := by decide +kernel
theorem dX6_leastPicking_42 : decode cX6_leastPicking 42 = .ok (.iinc 6 1, 3) := by decide +kernel
theorem dX6_leastPicking_45 : decode cX6_leastPicking 45 = .ok (.goto (-36), 3) := by decide +kernel
theorem dX6_leastPicking_48 : decode cX6_leastPicking 48 = .ok (.iconst (-1), 1) := by decide +kernel
theorem dX6_leastPicking_49 : decode cX6_leastPicking 49 = .ok (.ireturn, 1) := by decide +kernel
theorem dX6_widest_0 : decode cX6_widest 0 = .ok (.iconst (-1), 1) := by decide +kernel
theorem dX6_widest_1 : decode cX6_widest 1 = .ok (.istore_n 3, 1) := by decide +kernel
theorem dX6_widest_2 : decode cX6_widest 2 = .ok (.iconst (-1), 1) := by decide +kernel
theorem dX6_widest_3 : decode cX6_widest 3 = .ok (.istore 4, 2) := by decide +kernel
theorem dX6_widest_5 : decode cX6_widest 5 = .ok (.aload_n 0, 1) := by decide +kernel
theorem dX6_widest_6 : decode cX6_widest 6 = .ok (.invokevirtual 15, 3) := by decide +kernel
theorem dX6_widest_9 : decode cX6_widest 9 = .ok (.istore 5, 2) := by decide +kernel
theorem dX6_widest_11 : decode cX6_widest 11 = .ok (.iconst 0, 1) := by decide +kernel
theorem dX6_widest_12 : decode cX6_widest 12 = .ok (.istore 6, 2) := by decide +kernel
theorem dX6_widest_14 : decode cX6_widest 14 = .ok (.iload 6, 2) := by decide +kernel
theorem dX6_widest_16 : decode cX6_widest 16 = .ok (.iload 5, 2) := by decide +kernel
theorem dX6_widest_18 : decode cX6_widest 18 = .ok (.if_icmp .gt 42, 3) := by decide +kernel
theorem dX6_widest_21 : decode cX6_widest 21 = .ok (.iload 6, 2) := by decide +kernel
theorem dX6_widest_23 : decode cX6_widest 23 = .ok (.iload_n 2, 1) := by decide +kernel
theorem dX6_widest_24 : decode cX6_widest 24 = .ok (.iconst 3, 1) := by decide +kernel
theorem dX6_widest_25 : decode cX6_widest 25 = .ok (.invokestatic 59, 3) := by decide +kernel
theorem dX6_widest_28 : decode cX6_widest 28 = .ok (.ifCond .eq 26, 3) := by decide +kernel
theorem dX6_widest_31 : decode cX6_widest 31 = .ok (.aload_n 0, 1) := by decide +kernel
theorem dX6_widest_32 : decode cX6_widest 32 = .ok (.iload_n 1, 1) := by decide +kernel
theorem dX6_widest_33 : decode cX6_widest 33 = .ok (.iload 6, 2) := by decide +kernel
theorem dX6_widest_35 : decode cX6_widest 35 = .ok (.invokestatic 63, 3) := by decide +kernel
theorem dX6_widest_38 : decode cX6_widest 38 = .ok (.istore 7, 2) := by decide +kernel
theorem dX6_widest_40 : decode cX6_widest 40 = .ok (.iload 7, 2) := by decide +kernel
theorem dX6_widest_42 : decode cX6_widest 42 = .ok (.iload 4, 2) := by decide +kernel
theorem dX6_widest_44 : decode cX6_widest 44 = .ok (.if_icmp .le 10, 3) := by decide +kernel
theorem dX6_widest_47 : decode cX6_widest 47 = .ok (.iload 7, 2) := by decide +kernel
theorem dX6_widest_49 : decode cX6_widest 49 = .ok (.istore 4, 2) := by decide +kernel
theorem dX6_widest_51 : decode cX6_widest 51 = .ok (.iload 6, 2) := by decide +kernel
theorem dX6_widest_53 : decode cX6_widest 53 = .ok (.istore_n 3, 1) := by decide +kernel
theorem dX6_widest_54 : decode cX6_widest 54 = .ok (.iinc 6 1, 3) := by decide +kernel
theorem dX6_widest_57 : decode cX6_widest 57 = .ok (.goto (-43), 3) := by decide +kernel
theorem dX6_widest_60 : decode cX6_widest 60 = .ok (.iload_n 3, 1) := by decide +kernel
theorem dX6_widest_61 : decode cX6_widest 61 = .ok (.ireturn, 1) := by decide +kernel
theorem dX6_isRowOf_0 : decode cX6_isRowOf 0 = .ok (.iload_n 0, 1) := by decide +kernel
theorem dX6_isRowOf_1 : decode cX6_isRowOf 1 = .ok (.invokestatic 46, 3) := by decide +kernel
theorem dX6_isRowOf_4 : decode cX6_isRowOf 4 = .ok (.iload_n 2, 1) := by decide +kernel
theorem dX6_isRowOf_5 : decode cX6_isRowOf 5 = .ok (.if_icmp .ne 15, 3) := by decide +kernel
theorem dX6_isRowOf_8 : decode cX6_isRowOf 8 = .ok (.iload_n 0, 1) := by decide +kernel
theorem dX6_isRowOf_9 : decode cX6_isRowOf 9 = .ok (.iload_n 1, 1) := by decide +kernel
theorem dX6_isRowOf_10 : decode cX6_isRowOf 10 = .ok (.invokestatic 39, 3) := by decide +kernel
theorem dX6_isRowOf_13 : decode cX6_isRowOf 13 = .ok (.ifCond .ne 7, 3) := by decide +kernel
theorem dX6_isRowOf_16 : decode cX6_isRowOf 16 = .ok (.iconst 1, 1) := by decide +kernel
theorem dX6_isRowOf_17 : decode cX6_isRowOf 17 = .ok (.goto 4, 3) := by decide +kernel
theorem dX6_isRowOf_20 : decode cX6_isRowOf 20 = .ok (.iconst 0, 1) := by decide +kernel
theorem dX6_isRowOf_21 : decode cX6_isRowOf 21 = .ok (.ireturn, 1) := by decide +kernel
theorem dX6_isRowWith_0 : decode cX6_isRowWith 0 = .ok (.iload_n 0, 1) := by decide +kernel
theorem dX6_isRowWith_1 : decode cX6_isRowWith 1 = .ok (.iload_n 1, 1) := by decide +kernel
theorem dX6_isRowWith_2 : decode cX6_isRowWith 2 = .ok (.iload_n 3, 1) := by decide +kernel
theorem dX6_isRowWith_3 : decode cX6_isRowWith 3 = .ok (.invokestatic 59, 3) := by decide +kernel
theorem dX6_isRowWith_6 : decode cX6_isRowWith 6 = .ok (.ifCond .eq 15, 3) := by decide +kernel
theorem dX6_isRowWith_9 : decode cX6_isRowWith 9 = .ok (.iload_n 0, 1) := by decide +kernel
theorem dX6_isRowWith_10 : decode cX6_isRowWith 10 = .ok (.iload_n 2, 1) := by decide +kernel
theorem dX6_isRowWith_11 : decode cX6_isRowWith 11 = .ok (.invokestatic 39, 3) := by decide +kernel
theorem dX6_isRowWith_14 : decode cX6_isRowWith 14 = .ok (.ifCond .eq 7, 3) := by decide +kernel
theorem dX6_isRowWith_17 : decode cX6_isRowWith 17 = .ok (.iconst 1, 1) := by decide +kernel
theorem dX6_isRowWith_18 : decode cX6_isRowWith 18 = .ok (.goto 4, 3) := by decide +kernel
theorem dX6_isRowWith_21 : decode cX6_isRowWith 21 = .ok (.iconst 0, 1) := by decide +kernel
theorem dX6_isRowWith_22 : decode cX6_isRowWith 22 = .ok (.ireturn, 1) := by decide +kernel
theorem dX7_init_0 : decode cX7_init 0 = .ok (.aload_n 0, 1) := by decide +kernel
theorem dX7_init_1 : decode cX7_init 1 = .ok (.invokespecial 3, 3) := by decide +kernel
theorem dX7_init_4 : decode cX7_init 4 = .ok (.aload_n 0, 1) := by decide +kernel
theorem dX7_init_5 : decode cX7_init 5 = .ok (.bipush 8, 2) := by decide +kernel
theorem dX7_init_7 : decode cX7_init 7 = .ok (.newarray .int, 2) := by decide +kernel
theorem dX7_init_9 : decode cX7_init 9 = .ok (.putfield 9, 3) := by decide +kernel
theorem dX7_init_12 : decode cX7_init 12 = .ok (.aload_n 0, 1) := by decide +kernel
theorem dX7_init_13 : decode cX7_init 13 = .ok (.bipush 8, 2) := by decide +kernel
theorem dX7_init_15 : decode cX7_init 15 = .ok (.newarray .int, 2) := by decide +kernel
theorem dX7_init_17 : decode cX7_init 17 = .ok (.putfield 15, 3) := by decide +kernel
theorem dX7_init_20 : decode cX7_init 20 = .ok (.aload_n 0, 1) := by decide +kernel
theorem dX7_init_21 : decode cX7_init 21 = .ok (.bipush 8, 2) := by decide +kernel
theorem dX7_init_23 : decode cX7_init 23 = .ok (.newarray .int, 2) := by decide +kernel
theorem dX7_init_25 : decode cX7_init 25 = .ok (.putfield 18, 3) := by decide +kernel
theorem dX7_init_28 : decode cX7_init 28 = .ok (.aload_n 0, 1) := by decide +kernel
theorem dX7_init_29 : decode cX7_init 29 = .ok (.bipush 8, 2) := by decide +kernel
theorem dX7_init_31 : decode cX7_init 31 = .ok (.newarray .int, 2) := by decide +kernel
theorem dX7_init_33 : decode cX7_init 33 = .ok (.putfield 21, 3) := by decide +kernel
theorem dX7_init_36 : decode cX7_init 36 = .ok (.return_, 1) := by decide +kernel
theorem dX7_empty_0 : decode cX7_empty 0 = .ok (.aload_n 0, 1) := by decide +kernel
theorem dX7_empty_1 : decode cX7_empty 1 = .ok (.iconst 0, 1) := by decide +kernel
theorem dX7_empty_2 : decode cX7_empty 2 = .ok (.putfield 24, 3) := by decide +kernel
theorem dX7_empty_5 : decode cX7_empty 5 = .ok (.return_, 1) := by decide +kernel
theorem dX7_hasRoom_0 : decode cX7_hasRoom 0 = .ok (.aload_n 0, 1) := by decide +kernel
theorem dX7_hasRoom_1 : decode cX7_hasRoom 1 = .ok (.getfield 24, 3) := by decide +kernel
theorem dX7_hasRoom_4 : decode cX7_hasRoom 4 = .ok (.bipush 8, 2) := by decide +kernel
theorem dX7_hasRoom_6 : decode cX7_hasRoom 6 = .ok (.if_icmp .ge 7, 3) := by decide +kernel
theorem dX7_hasRoom_9 : decode cX7_hasRoom 9 = .ok (.iconst 1, 1) := by decide +kernel
theorem dX7_hasRoom_10 : decode cX7_hasRoom 10 = .ok (.goto 4, 3) := by decide +kernel
theorem dX7_hasRoom_13 : decode cX7_hasRoom 13 = .ok (.iconst 0, 1) := by decide +kernel
theorem dX7_hasRoom_14 : decode cX7_hasRoom 14 = .ok (.ireturn, 1) := by decide +kernel
theorem dX7_add_0 : decode cX7_add 0 = .ok (.aload_n 0, 1) := by decide +kernel
theorem dX7_add_1 : decode cX7_add 1 = .ok (.getfield 24, 3) := by decide +kernel
theorem dX7_add_4 : decode cX7_add 4 = .ok (.iconst 0, 1) := by decide +kernel
theorem dX7_add_5 : decode cX7_add 5 = .ok (.bipush 7, 2) := by decide +kernel
theorem dX7_add_7 : decode cX7_add 7 = .ok (.invokestatic 28, 3) := by decide +kernel
theorem dX7_add_10 : decode cX7_add 10 = .ok (.ifCond .eq 54, 3) := by decide +kernel
theorem dX7_add_13 : decode cX7_add 13 = .ok (.aload_n 0, 1) := by decide +kernel
theorem dX7_add_14 : decode cX7_add 14 = .ok (.getfield 9, 3) := by decide +kernel
theorem dX7_add_17 : decode cX7_add 17 = .ok (.aload_n 0, 1) := by decide +kernel
theorem dX7_add_18 : decode cX7_add 18 = .ok (.getfield 24, 3) := by decide +kernel
theorem dX7_add_21 : decode cX7_add 21 = .ok (.iload_n 1, 1) := by decide +kernel
theorem dX7_add_22 : decode cX7_add 22 = .ok (.iastore, 1) := by decide +kernel
theorem dX7_add_23 : decode cX7_add 23 = .ok (.aload_n 0, 1) := by decide +kernel
theorem dX7_add_24 : decode cX7_add 24 = .ok (.getfield 15, 3) := by decide +kernel
theorem dX7_add_27 : decode cX7_add 27 = .ok (.aload_n 0, 1) := by decide +kernel
theorem dX7_add_28 : decode cX7_add 28 = .ok (.getfield 24, 3) := by decide +kernel
theorem dX7_add_31 : decode cX7_add 31 = .ok (.iload_n 2, 1) := by decide +kernel
theorem dX7_add_32 : decode cX7_add 32 = .ok (.iastore, 1) := by decide +kernel
theorem dX7_add_33 : decode cX7_add 33 = .ok (.aload_n 0, 1) := by decide +kernel
theorem dX7_add_34 : decode cX7_add 34 = .ok (.getfield 18, 3) := by decide +kernel
theorem dX7_add_37 : decode cX7_add 37 = .ok (.aload_n 0, 1) := by decide +kernel
theorem dX7_add_38 : decode cX7_add 38 = .ok (.getfield 24, 3) := by decide +kernel
theorem dX7_add_41 : decode cX7_add 41 = .ok (.iload_n 3, 1) := by decide +kernel
theorem dX7_add_42 : decode cX7_add 42 = .ok (.iastore, 1) := by decide +kernel
theorem dX7_add_43 : decode cX7_add 43 = .ok (.aload_n 0, 1) := by decide +kernel
theorem dX7_add_44 : decode cX7_add 44 = .ok (.getfield 21, 3) := by decide +kernel
theorem dX7_add_47 : decode cX7_add 47 = .ok (.aload_n 0, 1) := by decide +kernel
theorem dX7_add_48 : decode cX7_add 48 = .ok (.getfield 24, 3) := by decide +kernel
theorem dX7_add_51 : decode cX7_add 51 = .ok (.iload 4, 2) := by decide +kernel
theorem dX7_add_53 : decode cX7_add 53 = .ok (.iastore, 1) := by decide +kernel
theorem dX7_add_54 : decode cX7_add 54 = .ok (.aload_n 0, 1) := by decide +kernel
theorem dX7_add_55 : decode cX7_add 55 = .ok (.dup, 1) := by decide +kernel
theorem dX7_add_56 : decode cX7_add 56 = .ok (.getfield 24, 3) := by decide +kernel
theorem dX7_add_59 : decode cX7_add 59 = .ok (.iconst 1, 1) := by decide +kernel
theorem dX7_add_60 : decode cX7_add 60 = .ok (.iadd, 1) := by decide +kernel
theorem dX7_add_61 : decode cX7_add 61 = .ok (.putfield 24, 3) := by decide +kernel
theorem dX7_add_64 : decode cX7_add 64 = .ok (.aload_n 0, 1) := by decide +kernel
theorem dX7_add_65 : decode cX7_add 65 = .ok (.getfield 24, 3) := by decide +kernel
theorem dX7_add_68 : decode cX7_add 68 = .ok (.ireturn, 1) := by decide +kernel
theorem dX7_countOtherwise_0 : decode cX7_countOtherwise 0 = .ok (.iconst 0, 1) := by decide +kernel
theorem dX7_countOtherwise_1 : decode cX7_countOtherwise 1 = .ok (.istore_n 3, 1) := by decide +kernel
theorem dX7_countOtherwise_2 : decode cX7_countOtherwise 2 = .ok (.iconst 0, 1) := by decide +kernel
theorem dX7_countOtherwise_3 : decode cX7_countOtherwise 3 = .ok (.istore 4, 2) := by decide +kernel
theorem dX7_countOtherwise_5 : decode cX7_countOtherwise 5 = .ok (.iload 4, 2) := by decide +kernel
theorem dX7_countOtherwise_7 : decode cX7_countOtherwise 7 = .ok (.aload_n 0, 1) := by decide +kernel
theorem dX7_countOtherwise_8 : decode cX7_countOtherwise 8 = .ok (.getfield 24, 3) := by decide +kernel
theorem dX7_countOtherwise_11 : decode cX7_countOtherwise 11 = .ok (.if_icmp .ge 59, 3) := by decide +kernel
theorem dX7_countOtherwise_14 : decode cX7_countOtherwise 14 = .ok (.iload 4, 2) := by decide +kernel
theorem dX7_countOtherwise_16 : decode cX7_countOtherwise 16 = .ok (.bipush 8, 2) := by decide +kernel
theorem dX7_countOtherwise_18 : decode cX7_countOtherwise 18 = .ok (.if_icmp .ge 52, 3) := by decide +kernel
theorem dX7_countOtherwise_21 : decode cX7_countOtherwise 21 = .ok (.aload_n 0, 1) := by decide +kernel
theorem dX7_countOtherwise_22 : decode cX7_countOtherwise 22 = .ok (.getfield 9, 3) := by decide +kernel
theorem dX7_countOtherwise_25 : decode cX7_countOtherwise 25 = .ok (.iload 4, 2) := by decide +kernel
theorem dX7_countOtherwise_27 : decode cX7_countOtherwise 27 = .ok (.iaload, 1) := by decide +kernel
theorem dX7_countOtherwise_28 : decode cX7_countOtherwise 28 = .ok (.iload_n 2, 1) := by decide +kernel
theorem dX7_countOtherwise_29 : decode cX7_countOtherwise 29 = .ok (.if_icmp .ne 35, 3) := by decide +kernel
theorem dX7_countOtherwise_32 : decode cX7_countOtherwise 32 = .ok (.aload_n 0, 1) := by decide +kernel
theorem dX7_countOtherwise_33 : decode cX7_countOtherwise 33 = .ok (.getfield 21, 3) := by decide +kernel
theorem dX7_countOtherwise_36 : decode cX7_countOtherwise 36 = .ok (.iload 4, 2) := by decide +kernel
theorem dX7_countOtherwise_38 : decode cX7_countOtherwise 38 = .ok (.iaload, 1) := by decide +kernel
theorem dX7_countOtherwise_39 : decode cX7_countOtherwise 39 = .ok (.aload_n 1, 1) := by decide +kernel
theorem dX7_countOtherwise_40 : decode cX7_countOtherwise 40 = .ok (.iload_n 2, 1) := by decide +kernel
theorem dX7_countOtherwise_41 : decode cX7_countOtherwise 41 = .ok (.aload_n 0, 1) := by decide +kernel
theorem dX7_countOtherwise_42 : decode cX7_countOtherwise 42 = .ok (.getfield 15, 3) := by decide +kernel
theorem dX7_countOtherwise_45 : decode cX7_countOtherwise 45 = .ok (.iload 4, 2) := by decide +kernel
theorem dX7_countOtherwise_47 : decode cX7_countOtherwise 47 = .ok (.iaload, 1) := by decide +kernel
theorem dX7_countOtherwise_48 : decode cX7_countOtherwise 48 = .ok (.aload_n 0, 1) := by decide +kernel
theorem dX7_countOtherwise_49 : decode cX7_countOtherwise 49 = .ok (.getfield 18, 3) := by decide +kernel
theorem dX7_countOtherwise_52 : decode cX7_countOtherwise 52 = .ok (.iload 4, 2) := by decide +kernel
theorem dX7_countOtherwise_54 : decode cX7_countOtherwise 54 = .ok (.iaload, 1) := by decide +kernel
theorem dX7_countOtherwise_55 : decode cX7_countOtherwise 55 = .ok (.invokestatic 32, 3) := by decide +kernel
theorem dX7_countOtherwise_58 : decode cX7_countOtherwise 58 = .ok (.if_icmp .eq 6, 3) := by decide +kernel
theorem dX7_countOtherwise_61 : decode cX7_countOtherwise 61 = .ok (.iinc 3 1, 3) := by decide +kernel
theorem dX7_countOtherwise_64 : decode cX7_countOtherwise 64 = .ok (.iinc 4 1, 3) := by decide +kernel
theorem dX7_countOtherwise_67 : decode cX7_countOtherwise 67 = .ok (.goto (-62), 3) := by decide +kernel
theorem dX7_countOtherwise_70 : decode cX7_countOtherwise 70 = .ok (.iload_n 3, 1) := by decide +kernel
theorem dX7_countOtherwise_71 : decode cX7_countOtherwise 71 = .ok (.ireturn, 1) := by decide +kernel
theorem dX7_pickNow_0 : decode cX7_pickNow 0 = .ok (.aload_n 0, 1) := by decide +kernel
theorem dX7_pickNow_1 : decode cX7_pickNow 1 = .ok (.iload_n 1, 1) := by decide +kernel
theorem dX7_pickNow_2 : decode cX7_pickNow 2 = .ok (.iload_n 2, 1) := by decide +kernel
theorem dX7_pickNow_3 : decode cX7_pickNow 3 = .ok (.invokevirtual 36, 3) := by decide +kernel
theorem dX7_pickNow_6 : decode cX7_pickNow 6 = .ok (.ifCond .eq 17, 3) := by decide +kernel
theorem dX7_pickNow_9 : decode cX7_pickNow 9 = .ok (.aload_n 0, 1) := by decide +kernel
theorem dX7_pickNow_10 : decode cX7_pickNow 10 = .ok (.aload_n 0, 1) := by decide +kernel
theorem dX7_pickNow_11 : decode cX7_pickNow 11 = .ok (.iload_n 1, 1) := by decide +kernel
theorem dX7_pickNow_12 : decode cX7_pickNow 12 = .ok (.iload_n 2, 1) := by decide +kernel
theorem dX7_pickNow_13 : decode cX7_pickNow 13 = .ok (.invokevirtual 42, 3) := by decide +kernel
theorem dX7_pickNow_16 : decode cX7_pickNow 16 = .ok (.iload_n 3, 1) := by decide +kernel
theorem dX7_pickNow_17 : decode cX7_pickNow 17 = .ok (.invokestatic 46, 3) := by decide +kernel
theorem dX7_pickNow_20 : decode cX7_pickNow 20 = .ok (.goto 4, 3) := by decide +kernel
theorem dX7_pickNow_23 : decode cX7_pickNow 23 = .ok (.iconst (-1), 1) := by decide +kernel
theorem dX7_pickNow_24 : decode cX7_pickNow 24 = .ok (.ireturn, 1) := by decide +kernel
theorem dX8_init_0 : decode cX8_init 0 = .ok (.aload_n 0, 1) := by decide +kernel
theorem dX8_init_1 : decode cX8_init 1 = .ok (.invokespecial 3, 3) := by decide +kernel
theorem dX8_init_4 : decode cX8_init 4 = .ok (.aload_n 0, 1) := by decide +kernel
theorem dX8_init_5 : decode cX8_init 5 = .ok (.sipush 240, 3) := by decide +kernel
theorem dX8_init_8 : decode cX8_init 8 = .ok (.newarray .int, 2) := by decide +kernel
theorem dX8_init_10 : decode cX8_init 10 = .ok (.putfield 9, 3) := by decide +kernel
theorem dX8_init_13 : decode cX8_init 13 = .ok (.aload_n 0, 1) := by decide +kernel
theorem dX8_init_14 : decode cX8_init 14 = .ok (.iconst (-1), 1) := by decide +kernel
theorem dX8_init_15 : decode cX8_init 15 = .ok (.putfield 15, 3) := by decide +kernel
theorem dX8_init_18 : decode cX8_init 18 = .ok (.return_, 1) := by decide +kernel
theorem dX8_hasRoom_0 : decode cX8_hasRoom 0 = .ok (.aload_n 0, 1) := by decide +kernel
theorem dX8_hasRoom_1 : decode cX8_hasRoom 1 = .ok (.getfield 19, 3) := by decide +kernel
theorem dX8_hasRoom_4 : decode cX8_hasRoom 4 = .ok (.sipush 240, 3) := by decide +kernel
theorem dX8_hasRoom_7 : decode cX8_hasRoom 7 = .ok (.if_icmp .ge 7, 3) := by decide +kernel
theorem dX8_hasRoom_10 : decode cX8_hasRoom 10 = .ok (.iconst 1, 1) := by decide +kernel
theorem dX8_hasRoom_11 : decode cX8_hasRoom 11 = .ok (.goto 4, 3) := by decide +kernel
theorem dX8_hasRoom_14 : decode cX8_hasRoom 14 = .ok (.iconst 0, 1) := by decide +kernel
theorem dX8_hasRoom_15 : decode cX8_hasRoom 15 = .ok (.ireturn, 1) := by decide +kernel
theorem dX8_append_0 : decode cX8_append 0 = .ok (.aload_n 0, 1) := by decide +kernel
theorem dX8_append_1 : decode cX8_append 1 = .ok (.getfield 19, 3) := by decide +kernel
theorem dX8_append_4 : decode cX8_append 4 = .ok (.iconst 0, 1) := by decide +kernel
theorem dX8_append_5 : decode cX8_append 5 = .ok (.sipush 239, 3) := by decide +kernel
theorem dX8_append_8 : decode cX8_append 8 = .ok (.invokestatic 22, 3) := by decide +kernel
theorem dX8_append_11 : decode cX8_append 11 = .ok (.ifCond .eq 23, 3) := by decide +kernel
theorem dX8_append_14 : decode cX8_append 14 = .ok (.aload_n 0, 1) := by decide +kernel
theorem dX8_append_15 : decode cX8_append 15 = .ok (.getfield 9, 3) := by decide +kernel
theorem dX8_append_18 : decode cX8_append 18 = .ok (.aload_n 0, 1) := by decide +kernel
theorem dX8_append_19 : decode cX8_append 19 = .ok (.getfield 19, 3) := by decide +kernel
theorem dX8_append_22 : decode cX8_append 22 = .ok (.iload_n 1, 1) := by decide +kernel
theorem dX8_append_23 : decode cX8_append 23 = .ok (.iastore, 1) := by decide +kernel
theorem dX8_append_24 : decode cX8_append 24 = .ok (.aload_n 0, 1) := by decide +kernel
theorem dX8_append_25 : decode cX8_append 25 = .ok (.dup, 1) := by decide +kernel
theorem dX8_append_26 : decode cX8_append 26 = .ok (.getfield 19, 3) := by decide +kernel
theorem dX8_append_29 : decode cX8_append 29 = .ok (.iconst 1, 1) := by decide +kernel
theorem dX8_append_30 : decode cX8_append 30 = .ok (.iadd, 1) := by decide +kernel
theorem dX8_append_31 : decode cX8_append 31 = .ok (.putfield 19, 3) := by decide +kernel
theorem dX8_append_34 : decode cX8_append 34 = .ok (.aload_n 0, 1) := by decide +kernel
theorem dX8_append_35 : decode cX8_append 35 = .ok (.getfield 19, 3) := by decide +kernel
theorem dX8_append_38 : decode cX8_append 38 = .ok (.ireturn, 1) := by decide +kernel
theorem dX8_empty_0 : decode cX8_empty 0 = .ok (.aload_n 0, 1) := by decide +kernel
theorem dX8_empty_1 : decode cX8_empty 1 = .ok (.iconst 0, 1) := by decide +kernel
theorem dX8_empty_2 : decode cX8_empty 2 = .ok (.putfield 19, 3) := by decide +kernel
theorem dX8_empty_5 : decode cX8_empty 5 = .ok (.return_, 1) := by decide +kernel
theorem dX8_tellInto_0 : decode cX8_tellInto 0 = .ok (.aload_n 1, 1) := by decide +kernel
theorem dX8_tellInto_1 : decode cX8_tellInto 1 = .ok (.invokevirtual 26, 3) := by decide +kernel
theorem dX8_tellInto_4 : decode cX8_tellInto 4 = .ok (.aload_n 0, 1) := by decide +kernel
theorem dX8_tellInto_5 : decode cX8_tellInto 5 = .ok (.iconst 0, 1) := by decide +kernel
theorem dX8_tellInto_6 : decode cX8_tellInto 6 = .ok (.putfield 31, 3) := by decide +kernel
theorem dX8_tellInto_9 : decode cX8_tellInto 9 = .ok (.aload_n 0, 1) := by decide +kernel
theorem dX8_tellInto_10 : decode cX8_tellInto 10 = .ok (.iconst 0, 1) := by decide +kernel
theorem dX8_tellInto_11 : decode cX8_tellInto 11 = .ok (.putfield 34, 3) := by decide +kernel
theorem dX8_tellInto_14 : decode cX8_tellInto 14 = .ok (.aload_n 0, 1) := by decide +kernel
theorem dX8_tellInto_15 : decode cX8_tellInto 15 = .ok (.iconst (-1), 1) := by decide +kernel
theorem dX8_tellInto_16 : decode cX8_tellInto 16 = .ok (.putfield 15, 3) := by decide +kernel
theorem dX8_tellInto_19 : decode cX8_tellInto 19 = .ok (.aload_n 0, 1) := by decide +kernel
theorem dX8_tellInto_20 : decode cX8_tellInto 20 = .ok (.invokevirtual 37, 3) := by decide +kernel
theorem dX8_tellInto_23 : decode cX8_tellInto 23 = .ok (.iconst 0, 1) := by decide +kernel
theorem dX8_tellInto_24 : decode cX8_tellInto 24 = .ok (.istore_n 2, 1) := by decide +kernel
theorem dX8_tellInto_25 : decode cX8_tellInto 25 = .ok (.iload_n 2, 1) := by decide +kernel
theorem dX8_tellInto_26 : decode cX8_tellInto 26 = .ok (.sipush 240, 3) := by decide +kernel
theorem dX8_tellInto_29 : decode cX8_tellInto 29 = .ok (.if_icmp .ge 36, 3) := by decide +kernel
theorem dX8_tellInto_32 : decode cX8_tellInto 32 = .ok (.aload_n 0, 1) := by decide +kernel
theorem dX8_tellInto_33 : decode cX8_tellInto 33 = .ok (.getfield 31, 3) := by decide +kernel
theorem dX8_tellInto_36 : decode cX8_tellInto 36 = .ok (.aload_n 0, 1) := by decide +kernel
theorem dX8_tellInto_37 : decode cX8_tellInto 37 = .ok (.getfield 19, 3) := by decide +kernel
theorem dX8_tellInto_40 : decode cX8_tellInto 40 = .ok (.if_icmp .ge 25, 3) := by decide +kernel
theorem dX8_tellInto_43 : decode cX8_tellInto 43 = .ok (.aload_n 0, 1) := by decide +kernel
theorem dX8_tellInto_44 : decode cX8_tellInto 44 = .ok (.getfield 34, 3) := by decide +kernel
theorem dX8_tellInto_47 : decode cX8_tellInto 47 = .ok (.ifCond .ne 18, 3) := by decide +kernel
theorem dX8_tellInto_50 : decode cX8_tellInto 50 = .ok (.aload_n 0, 1) := by decide +kernel
theorem dX8_tellInto_51 : decode cX8_tellInto 51 = .ok (.aload_n 1, 1) := by decide +kernel
theorem dX8_tellInto_52 : decode cX8_tellInto 52 = .ok (.invokevirtual 40, 3) := by decide +kernel
theorem dX8_tellInto_55 : decode cX8_tellInto 55 = .ok (.aload_n 0, 1) := by decide +kernel
theorem dX8_tellInto_56 : decode cX8_tellInto 56 = .ok (.invokevirtual 37, 3) := by decide +kernel
theorem dX8_tellInto_59 : decode cX8_tellInto 59 = .ok (.iinc 2 1, 3) := by decide +kernel
theorem dX8_tellInto_62 : decode cX8_tellInto 62 = .ok (.goto (-37), 3) := by decide +kernel
theorem dX8_tellInto_65 : decode cX8_tellInto 65 = .ok (.aload_n 0, 1) := by decide +kernel
theorem dX8_tellInto_66 : decode cX8_tellInto 66 = .ok (.getfield 34, 3) := by decide +kernel
theorem dX8_tellInto_69 : decode cX8_tellInto 69 = .ok (.ireturn, 1) := by decide +kernel
theorem dX8_readClause_0 : decode cX8_readClause 0 = .ok (.aload_n 0, 1) := by decide +kernel
theorem dX8_readClause_1 : decode cX8_readClause 1 = .ok (.invokevirtual 44, 3) := by decide +kernel
theorem dX8_readClause_4 : decode cX8_readClause 4 = .ok (.istore_n 2, 1) := by decide +kernel
theorem dX8_readClause_5 : decode cX8_readClause 5 = .ok (.iload_n 2, 1) := by decide +kernel
theorem dX8_readClause_6 : decode cX8_readClause 6 = .ok (.bipush 112, 2) := by decide +kernel
theorem dX8_readClause_8 : decode cX8_readClause 8 = .ok (.if_icmp .ne 11, 3) := by decide +kernel
theorem dX8_readClause_11 : decode cX8_readClause 11 = .ok (.aload_n 0, 1) := by decide +kernel
theorem dX8_readClause_12 : decode cX8_readClause 12 = .ok (.aload_n 1, 1) := by decide +kernel
theorem dX8_readClause_13 : decode cX8_readClause 13 = .ok (.invokevirtual 48, 3) := by decide +kernel
theorem dX8_readClause_16 : decode cX8_readClause 16 = .ok (.goto 26, 3) := by decide +kernel
theorem dX8_readClause_19 : decode cX8_readClause 19 = .ok (.iload_n 2, 1) := by decide +kernel
theorem dX8_readClause_20 : decode cX8_readClause 20 = .ok (.bipush 107, 2) := by decide +kernel
theorem dX8_readClause_22 : decode cX8_readClause 22 = .ok (.if_icmp .ne 11, 3) := by decide +kernel
theorem dX8_readClause_25 : decode cX8_readClause 25 = .ok (.aload_n 0, 1) := by decide +kernel
theorem dX8_readClause_26 : decode cX8_readClause 26 = .ok (.aload_n 1, 1) := by decide +kernel
theorem dX8_readClause_27 : decode cX8_readClause 27 = .ok (.invokevirtual 51, 3) := by decide +kernel
theorem dX8_readClause_30 : decode cX8_readClause 30 = .ok (.goto 12, 3) := by decide +kernel
theorem dX8_readClause_33 : decode cX8_readClause 33 = .ok (.aload_n 0, 1) := by decide +kernel
theorem dX8_readClause_34 : decode cX8_readClause 34 = .ok (.iconst 1, 1) := by decide +kernel
theorem dX8_readClause_35 : decode cX8_readClause 35 = .ok (.aload_n 0, 1) := by decide +kernel
theorem dX8_readClause_36 : decode cX8_readClause 36 = .ok (.getfield 31, 3) := by decide +kernel
theorem dX8_readClause_39 : decode cX8_readClause 39 = .ok (.invokevirtual 54, 3) := by decide +kernel
theorem dX8_readClause_42 : decode cX8_readClause 42 = .ok (.return_, 1) := by decide +kernel
theorem dX8_readPerson_0 : decode cX8_readPerson 0 = .ok (.aload_n 1, 1) := by decide +kernel
theorem dX8_readPerson_1 : decode cX8_readPerson 1 = .ok (.getfield 58, 3) := by decide +kernel
theorem dX8_readPerson_4 : decode cX8_readPerson 4 = .ok (.bipush 8, 2) := by decide +kernel
theorem dX8_readPerson_6 : decode cX8_readPerson 6 = .ok (.if_icmp .lt 12, 3) := by decide +kernel
theorem dX8_readPerson_9 : decode cX8_readPerson 9 = .ok (.aload_n 0, 1) := by decide +kernel
theorem dX8_readPerson_10 : decode cX8_readPerson 10 = .ok (.iconst 3, 1) := by decide +kernel
theorem dX8_readPerson_11 : decode cX8_readPerson 11 = .ok (.aload_n 0, 1) := by decide +kernel
theorem dX8_readPerson_12 : decode cX8_readPerson 12 = .ok (.getfield 31, 3) := by decide +kernel
theorem dX8_readPerson_15 : decode cX8_readPerson 15 = .ok (.invokevirtual 54, 3) := by decide +kernel
theorem dX8_readPerson_18 : decode cX8_readPerson 18 = .ok (.aload_n 0, 1) := by decide +kernel
theorem dX8_readPerson_19 : decode cX8_readPerson 19 = .ok (.dup, 1) := by decide +kernel
theorem dX8_readPerson_20 : decode cX8_readPerson 20 = .ok (.getfield 31, 3) := by decide +kernel
theorem dX8_readPerson_23 : decode cX8_readPerson 23 = .ok (.iconst 1, 1) := by decide +kernel
theorem dX8_readPerson_24 : decode cX8_readPerson 24 = .ok (.iadd, 1) := by decide +kernel
theorem dX8_readPerson_25 : decode cX8_readPerson 25 = .ok (.putfield 31, 3) := by decide +kernel
theorem dX8_readPerson_28 : decode cX8_readPerson 28 = .ok (.aload_n 0, 1) := by decide +kernel
theorem dX8_readPerson_29 : decode cX8_readPerson 29 = .ok (.sipush 255, 3) := by decide +kernel
theorem dX8_readPerson_32 : decode cX8_readPerson 32 = .ok (.invokevirtual 61, 3) := by decide +kernel
theorem dX8_readPerson_35 : decode cX8_readPerson 35 = .ok (.istore_n 2, 1) := by decide +kernel
theorem dX8_readPerson_36 : decode cX8_readPerson 36 = .ok (.aload_n 0, 1) := by decide +kernel
theorem dX8_readPerson_37 : decode cX8_readPerson 37 = .ok (.bipush 7, 2) := by decide +kernel
theorem dX8_readPerson_39 : decode cX8_readPerson 39 = .ok (.invokevirtual 61, 3) := by decide +kernel
theorem dX8_readPerson_42 : decode cX8_readPerson 42 = .ok (.istore_n 3, 1) := by decide +kernel
theorem dX8_readPerson_43 : decode cX8_readPerson 43 = .ok (.aload_n 0, 1) := by decide +kernel
theorem dX8_readPerson_44 : decode cX8_readPerson 44 = .ok (.invokevirtual 65, 3) := by decide +kernel
theorem dX8_readPerson_47 : decode cX8_readPerson 47 = .ok (.aload_n 0, 1) := by decide +kernel
theorem dX8_readPerson_48 : decode cX8_readPerson 48 = .ok (.getfield 34, 3) := by decide +kernel
theorem dX8_readPerson_51 : decode cX8_readPerson 51 = .ok (.ifCond .ne 9, 3) := by decide +kernel
theorem dX8_readPerson_54 : decode cX8_readPerson 54 = .ok (.aload_n 1, 1) := by decide +kernel
theorem dX8_readPerson_55 : decode cX8_readPerson 55 = .ok (.iload_n 2, 1) := by decide +kernel
theorem dX8_readPerson_56 : decode cX8_readPerson 56 = .ok (.iload_n 3, 1) := by decide +kernel
theorem dX8_readPerson_57 : decode cX8_readPerson 57 = .ok (.invokevirtual 68, 3) := by decide +kernel
theorem dX8_readPerson_60 : decode cX8_readPerson 60 = .ok (.return_, 1) := by decide +kernel
theorem dX8_readAcquaintance_0 : decode cX8_readAcquaintance 0 = .ok (.aload_n 0, 1) := by decide +kernel
theorem dX8_readAcquaintance_1 : decode cX8_readAcquaintance 1 = .ok (.dup, 1) := by decide +kernel
theorem dX8_readAcquaintance_2 : decode cX8_readAcquaintance 2 = .ok (.getfield 31, 3) := by decide +kernel
theorem dX8_readAcquaintance_5 : decode cX8_readAcquaintance 5 = .ok (.iconst 1, 1) := by decide +kernel
theorem dX8_readAcquaintance_6 : decode cX8_readAcquaintance 6 = .ok (.iadd, 1) := by decide +kernel
theorem dX8_readAcquaintance_7 : decode cX8_readAcquaintance 7 = .ok (.putfield 31, 3) := by decide +kernel
theorem dX8_readAcquaintance_10 : decode cX8_readAcquaintance 10 = .ok (.aload_n 0, 1) := by decide +kernel
theorem dX8_readAcquaintance_11 : decode cX8_readAcquaintance 11 = .ok (.aload_n 1, 1) := by decide +kernel
theorem dX8_readAcquaintance_12 : decode cX8_readAcquaintance 12 = .ok (.getfield 58, 3) := by decide +kernel
theorem dX8_readAcquaintance_15 : decode cX8_readAcquaintance 15 = .ok (.iconst 1, 1) := by decide +kernel
theorem dX8_readAcquaintance_16 : decode cX8_readAcquaintance 16 = .ok (.isub, 1) := by decide +kernel
theorem dX8_readAcquaintance_17 : decode cX8_readAcquaintance 17 = .ok (.invokevirtual 61, 3) := by decide +kernel
theorem dX8_readAcquaintance_20 : decode cX8_readAcquaintance 20 = .ok (.istore_n 2, 1) := by decide +kernel
theorem dX8_readAcquaintance_21 : decode cX8_readAcquaintance 21 = .ok (.aload_n 0, 1) := by decide +kernel
theorem dX8_readAcquaintance_22 : decode cX8_readAcquaintance 22 = .ok (.aload_n 1, 1) := by decide +kernel
theorem dX8_readAcquaintance_23 : decode cX8_readAcquaintance 23 = .ok (.getfield 58, 3) := by decide +kernel
theorem dX8_readAcquaintance_26 : decode cX8_readAcquaintance 26 = .ok (.iconst 1, 1) := by decide +kernel
theorem dX8_readAcquaintance_27 : decode cX8_readAcquaintance 27 = .ok (.isub, 1) := by decide +kernel
theorem dX8_readAcquaintance_28 : decode cX8_readAcquaintance 28 = .ok (.invokevirtual 61, 3) := by decide +kernel
theorem dX8_readAcquaintance_31 : decode cX8_readAcquaintance 31 = .ok (.istore_n 3, 1) := by decide +kernel
theorem dX8_readAcquaintance_32 : decode cX8_readAcquaintance 32 = .ok (.iload_n 3, 1) := by decide +kernel
theorem dX8_readAcquaintance_33 : decode cX8_readAcquaintance 33 = .ok (.iload_n 2, 1) := by decide +kernel
theorem dX8_readAcquaintance_34 : decode cX8_readAcquaintance 34 = .ok (.if_icmp .eq 12, 3) := by decide +kernel
theorem dX8_readAcquaintance_37 : decode cX8_readAcquaintance 37 = .ok (.aload_n 1, 1) := by decide +kernel
theorem dX8_readAcquaintance_38 : decode cX8_readAcquaintance 38 = .ok (.iload_n 2, 1) := by decide +kernel
theorem dX8_readAcquaintance_39 : decode cX8_readAcquaintance 39 = .ok (.iload_n 3, 1) := by decide +kernel
theorem dX8_readAcquaintance_40 : decode cX8_readAcquaintance 40 = .ok (.invokevirtual 71, 3) := by decide +kernel
theorem dX8_readAcquaintance_43 : decode cX8_readAcquaintance 43 = .ok (.ifCond .eq 12, 3) := by decide +kernel
theorem dX8_readAcquaintance_46 : decode cX8_readAcquaintance 46 = .ok (.aload_n 0, 1) := by decide +kernel
theorem dX8_readAcquaintance_47 : decode cX8_readAcquaintance 47 = .ok (.iconst 4, 1) := by decide +kernel
theorem dX8_readAcquaintance_48 : decode cX8_readAcquaintance 48 = .ok (.aload_n 0, 1) := by decide +kernel
theorem dX8_readAcquaintance_49 : decode cX8_readAcquaintance 49 = .ok (.getfield 75, 3) := by decide +kernel
theorem dX8_readAcquaintance_52 : decode cX8_readAcquaintance 52 = .ok (.invokevirtual 54, 3) := by decide +kernel
theorem dX8_readAcquaintance_55 : decode cX8_readAcquaintance 55 = .ok (.aload_n 0, 1) := by decide +kernel
theorem dX8_readAcquaintance_56 : decode cX8_readAcquaintance 56 = .ok (.invokevirtual 65, 3) := by decide +kernel
theorem dX8_readAcquaintance_59 : decode cX8_readAcquaintance 59 = .ok (.aload_n 0, 1) := by decide +kernel
theorem dX8_readAcquaintance_60 : decode cX8_readAcquaintance 60 = .ok (.getfield 34, 3) := by decide +kernel
theorem dX8_readAcquaintance_63 : decode cX8_readAcquaintance 63 = .ok (.ifCond .ne 9, 3) := by decide +kernel
theorem dX8_readAcquaintance_66 : decode cX8_readAcquaintance 66 = .ok (.aload_n 1, 1) := by decide +kernel
theorem dX8_readAcquaintance_67 : decode cX8_readAcquaintance 67 = .ok (.iload_n 2, 1) := by decide +kernel
theorem dX8_readAcquaintance_68 : decode cX8_readAcquaintance 68 = .ok (.iload_n 3, 1) := by decide +kernel
theorem dX8_readAcquaintance_69 : decode cX8_readAcquaintance 69 = .ok (.invokevirtual 78, 3) := by decide +kernel
theorem dX8_readAcquaintance_72 : decode cX8_readAcquaintance 72 = .ok (.return_, 1) := by decide +kernel
theorem dX8_readNumber_0 : decode cX8_readNumber 0 = .ok (.aload_n 0, 1) := by decide +kernel
theorem dX8_readNumber_1 : decode cX8_readNumber 1 = .ok (.invokevirtual 37, 3) := by decide +kernel
theorem dX8_readNumber_4 : decode cX8_readNumber 4 = .ok (.aload_n 0, 1) := by decide +kernel
theorem dX8_readNumber_5 : decode cX8_readNumber 5 = .ok (.aload_n 0, 1) := by decide +kernel
theorem dX8_readNumber_6 : decode cX8_readNumber 6 = .ok (.getfield 31, 3) := by decide +kernel
theorem dX8_readNumber_9 : decode cX8_readNumber 9 = .ok (.putfield 75, 3) := by decide +kernel
theorem dX8_readNumber_12 : decode cX8_readNumber 12 = .ok (.iconst 0, 1) := by decide +kernel
theorem dX8_readNumber_13 : decode cX8_readNumber 13 = .ok (.istore_n 2, 1) := by decide +kernel
theorem dX8_readNumber_14 : decode cX8_readNumber 14 = .ok (.iconst 0, 1) := by decide +kernel
theorem dX8_readNumber_15 : decode cX8_readNumber 15 = .ok (.istore_n 3, 1) := by decide +kernel
theorem dX8_readNumber_16 : decode cX8_readNumber 16 = .ok (.aload_n 0, 1) := by decide +kernel
theorem dX8_readNumber_17 : decode cX8_readNumber 17 = .ok (.getfield 31, 3) := by decide +kernel
theorem dX8_readNumber_20 : decode cX8_readNumber 20 = .ok (.aload_n 0, 1) := by decide +kernel
theorem dX8_readNumber_21 : decode cX8_readNumber 21 = .ok (.getfield 19, 3) := by decide +kernel
theorem dX8_readNumber_24 : decode cX8_readNumber 24 = .ok (.if_icmp .ge 47, 3) := by decide +kernel
theorem dX8_readNumber_27 : decode cX8_readNumber 27 = .ok (.aload_n 0, 1) := by decide +kernel
theorem dX8_readNumber_28 : decode cX8_readNumber 28 = .ok (.invokevirtual 44, 3) := by decide +kernel
theorem dX8_readNumber_31 : decode cX8_readNumber 31 = .ok (.invokestatic 81, 3) := by decide +kernel
theorem dX8_readNumber_34 : decode cX8_readNumber 34 = .ok (.ifCond .eq 37, 3) := by decide +kernel
theorem dX8_readNumber_37 : decode cX8_readNumber 37 = .ok (.iload_n 2, 1) := by decide +kernel
theorem dX8_readNumber_38 : decode cX8_readNumber 38 = .ok (.iconst 3, 1) := by decide +kernel
theorem dX8_readNumber_39 : decode cX8_readNumber 39 = .ok (.if_icmp .ge 16, 3) := by decide +kernel
theorem dX8_readNumber_42 : decode cX8_readNumber 42 = .ok (.iload_n 3, 1) := by decide +kernel
theorem dX8_readNumber_43 : decode cX8_readNumber 43 = .ok (.bipush 10, 2) := by decide +kernel
theorem dX8_readNumber_45 : decode cX8_readNumber 45 = .ok (.imul, 1) := by decide +kernel
theorem dX8_readNumber_46 : decode cX8_readNumber 46 = .ok (.aload_n 0, 1) := by decide +kernel
theorem dX8_readNumber_47 : decode cX8_readNumber 47 = .ok (.invokevirtual 44, 3) := by decide +kernel
theorem dX8_readNumber_50 : decode cX8_readNumber 50 = .ok (.iadd, 1) := by decide +kernel
theorem dX8_readNumber_51 : decode cX8_readNumber 51 = .ok (.bipush 48, 2) := by decide +kernel
theorem dX8_readNumber_53 : decode cX8_readNumber 53 = .ok (.isub, 1) := by decide +kernel
theorem dX8_readNumber_54 : decode cX8_readNumber 54 = .ok (.istore_n 3, 1) := by decide +kernel
theorem dX8_readNumber_55 : decode cX8_readNumber 55 = .ok (.iinc 2 1, 3) := by decide +kernel
theorem dX8_readNumber_58 : decode cX8_readNumber 58 = .ok (.aload_n 0, 1) := by decide +kernel
theorem dX8_readNumber_59 : decode cX8_readNumber 59 = .ok (.dup, 1) := by decide +kernel
theorem dX8_readNumber_60 : decode cX8_readNumber 60 = .ok (.getfield 31, 3) := by decide +kernel
theorem dX8_readNumber_63 : decode cX8_readNumber 63 = .ok (.iconst 1, 1) := by decide +kernel
theorem dX8_readNumber_64 : decode cX8_readNumber 64 = .ok (.iadd, 1) := by decide +kernel
theorem dX8_readNumber_65 : decode cX8_readNumber 65 = .ok (.putfield 31, 3) := by decide +kernel
theorem dX8_readNumber_68 : decode cX8_readNumber 68 = .ok (.goto (-52), 3) := by decide +kernel
theorem dX8_readNumber_71 : decode cX8_readNumber 71 = .ok (.iload_n 2, 1) := by decide +kernel
theorem dX8_readNumber_72 : decode cX8_readNumber 72 = .ok (.ifCond .ne 15, 3) := by decide +kernel
theorem dX8_readNumber_75 : decode cX8_readNumber 75 = .ok (.aload_n 0, 1) := by decide +kernel
theorem dX8_readNumber_76 : decode cX8_readNumber 76 = .ok (.iconst 1, 1) := by decide +kernel
theorem dX8_readNumber_77 : decode cX8_readNumber 77 = .ok (.aload_n 0, 1) := by decide +kernel
theorem dX8_readNumber_78 : decode cX8_readNumber 78 = .ok (.getfield 75, 3) := by decide +kernel
theorem dX8_readNumber_81 : decode cX8_readNumber 81 = .ok (.invokevirtual 54, 3) := by decide +kernel
theorem dX8_readNumber_84 : decode cX8_readNumber 84 = .ok (.goto 22, 3) := by decide +kernel
theorem dX8_readNumber_87 : decode cX8_readNumber 87 = .ok (.iload_n 2, 1) := by decide +kernel
theorem dX8_readNumber_88 : decode cX8_readNumber 88 = .ok (.iconst 3, 1) := by decide +kernel
theorem dX8_readNumber_89 : decode cX8_readNumber 89 = .ok (.if_icmp .gt 8, 3) := by decide +kernel
theorem dX8_readNumber_92 : decode cX8_readNumber 92 = .ok (.iload_n 3, 1) := by decide +kernel
theorem dX8_readNumber_93 : decode cX8_readNumber 93 = .ok (.iload_n 1, 1) := by decide +kernel
theorem dX8_readNumber_94 : decode cX8_readNumber 94 = .ok (.if_icmp .le 12, 3) := by decide +kernel
theorem dX8_readNumber_97 : decode cX8_readNumber 97 = .ok (.aload_n 0, 1) := by decide +kernel
theorem dX8_readNumber_98 : decode cX8_readNumber 98 = .ok (.iconst 2, 1) := by decide +kernel
theorem dX8_readNumber_99 : decode cX8_readNumber 99 = .ok (.aload_n 0, 1) := by decide +kernel
theorem dX8_readNumber_100 : decode cX8_readNumber 100 = .ok (.getfield 75, 3) := by decide +kernel
theorem dX8_readNumber_103 : decode cX8_readNumber 103 = .ok (.invokevirtual 54, 3) := by decide +kernel
theorem dX8_readNumber_106 : decode cX8_readNumber 106 = .ok (.iload_n 3, 1) := by decide +kernel
theorem dX8_readNumber_107 : decode cX8_readNumber 107 = .ok (.ireturn, 1) := by decide +kernel
theorem dX8_readEndOfClause_0 : decode cX8_readEndOfClause 0 = .ok (.aload_n 0, 1) := by decide +kernel
theorem dX8_readEndOfClause_1 : decode cX8_readEndOfClause 1 = .ok (.invokevirtual 37, 3) := by decide +kernel
theorem dX8_readEndOfClause_4 : decode cX8_readEndOfClause 4 = .ok (.aload_n 0, 1) := by decide +kernel
theorem dX8_readEndOfClause_5 : decode cX8_readEndOfClause 5 = .ok (.invokevirtual 44, 3) := by decide +kernel
theorem dX8_readEndOfClause_8 : decode cX8_readEndOfClause 8 = .ok (.bipush 59, 2) := by decide +kernel
theorem dX8_readEndOfClause_10 : decode cX8_readEndOfClause 10 = .ok (.if_icmp .eq 12, 3) := by decide +kernel
theorem dX8_readEndOfClause_13 : decode cX8_readEndOfClause 13 = .ok (.aload_n 0, 1) := by decide +kernel
theorem dX8_readEndOfClause_14 : decode cX8_readEndOfClause 14 = .ok (.iconst 1, 1) := by decide +kernel
theorem dX8_readEndOfClause_15 : decode cX8_readEndOfClause 15 = .ok (.aload_n 0, 1) := by decide +kernel
theorem dX8_readEndOfClause_16 : decode cX8_readEndOfClause 16 = .ok (.getfield 31, 3) := by decide +kernel
theorem dX8_readEndOfClause_19 : decode cX8_readEndOfClause 19 = .ok (.invokevirtual 54, 3) := by decide +kernel
theorem dX8_readEndOfClause_22 : decode cX8_readEndOfClause 22 = .ok (.aload_n 0, 1) := by decide +kernel
theorem dX8_readEndOfClause_23 : decode cX8_readEndOfClause 23 = .ok (.dup, 1) := by decide +kernel
theorem dX8_readEndOfClause_24 : decode cX8_readEndOfClause 24 = .ok (.getfield 31, 3) := by decide +kernel
theorem dX8_readEndOfClause_27 : decode cX8_readEndOfClause 27 = .ok (.iconst 1, 1) := by decide +kernel
theorem dX8_readEndOfClause_28 : decode cX8_readEndOfClause 28 = .ok (.iadd, 1) := by decide +kernel
theorem dX8_readEndOfClause_29 : decode cX8_readEndOfClause 29 = .ok (.putfield 31, 3) := by decide +kernel
theorem dX8_readEndOfClause_32 : decode cX8_readEndOfClause 32 = .ok (.return_, 1) := by decide +kernel
theorem dX8_skipBlanks_0 : decode cX8_skipBlanks 0 = .ok (.aload_n 0, 1) := by decide +kernel
theorem dX8_skipBlanks_1 : decode cX8_skipBlanks 1 = .ok (.getfield 31, 3) := by decide +kernel
theorem dX8_skipBlanks_4 : decode cX8_skipBlanks 4 = .ok (.aload_n 0, 1) := by decide +kernel
theorem dX8_skipBlanks_5 : decode cX8_skipBlanks 5 = .ok (.getfield 19, 3) := by decide +kernel
theorem dX8_skipBlanks_8 : decode cX8_skipBlanks 8 = .ok (.if_icmp .ge 25, 3) := by decide +kernel
theorem dX8_skipBlanks_11 : decode cX8_skipBlanks 11 = .ok (.aload_n 0, 1) := by decide +kernel
theorem dX8_skipBlanks_12 : decode cX8_skipBlanks 12 = .ok (.invokevirtual 44, 3) := by decide +kernel
theorem dX8_skipBlanks_15 : decode cX8_skipBlanks 15 = .ok (.bipush 32, 2) := by decide +kernel
theorem dX8_skipBlanks_17 : decode cX8_skipBlanks 17 = .ok (.if_icmp .ne 16, 3) := by decide +kernel
theorem dX8_skipBlanks_20 : decode cX8_skipBlanks 20 = .ok (.aload_n 0, 1) := by decide +kernel
theorem dX8_skipBlanks_21 : decode cX8_skipBlanks 21 = .ok (.dup, 1) := by decide +kernel
theorem dX8_skipBlanks_22 : decode cX8_skipBlanks 22 = .ok (.getfield 31, 3) := by decide +kernel
theorem dX8_skipBlanks_25 : decode cX8_skipBlanks 25 = .ok (.iconst 1, 1) := by decide +kernel
theorem dX8_skipBlanks_26 : decode cX8_skipBlanks 26 = .ok (.iadd, 1) := by decide +kernel
theorem dX8_skipBlanks_27 : decode cX8_skipBlanks 27 = .ok (.putfield 31, 3) := by decide +kernel
theorem dX8_skipBlanks_30 : decode cX8_skipBlanks 30 = .ok (.goto (-30), 3) := by decide +kernel
theorem dX8_skipBlanks_33 : decode cX8_skipBlanks 33 = .ok (.return_, 1) := by decide +kernel
theorem dX8_letterHere_0 : decode cX8_letterHere 0 = .ok (.aload_n 0, 1) := by decide +kernel
theorem dX8_letterHere_1 : decode cX8_letterHere 1 = .ok (.getfield 31, 3) := by decide +kernel
theorem dX8_letterHere_4 : decode cX8_letterHere 4 = .ok (.ifCond .lt 36, 3) := by decide +kernel
theorem dX8_letterHere_7 : decode cX8_letterHere 7 = .ok (.aload_n 0, 1) := by decide +kernel
theorem dX8_letterHere_8 : decode cX8_letterHere 8 = .ok (.getfield 31, 3) := by decide +kernel
theorem dX8_letterHere_11 : decode cX8_letterHere 11 = .ok (.aload_n 0, 1) := by decide +kernel
theorem dX8_letterHere_12 : decode cX8_letterHere 12 = .ok (.getfield 19, 3) := by decide +kernel
theorem dX8_letterHere_15 : decode cX8_letterHere 15 = .ok (.if_icmp .ge 25, 3) := by decide +kernel
theorem dX8_letterHere_18 : decode cX8_letterHere 18 = .ok (.aload_n 0, 1) := by decide +kernel
theorem dX8_letterHere_19 : decode cX8_letterHere 19 = .ok (.getfield 31, 3) := by decide +kernel
theorem dX8_letterHere_22 : decode cX8_letterHere 22 = .ok (.sipush 240, 3) := by decide +kernel
theorem dX8_letterHere_25 : decode cX8_letterHere 25 = .ok (.if_icmp .ge 15, 3) := by decide +kernel
theorem dX8_letterHere_28 : decode cX8_letterHere 28 = .ok (.aload_n 0, 1) := by decide +kernel
theorem dX8_letterHere_29 : decode cX8_letterHere 29 = .ok (.getfield 9, 3) := by decide +kernel
theorem dX8_letterHere_32 : decode cX8_letterHere 32 = .ok (.aload_n 0, 1) := by decide +kernel
theorem dX8_letterHere_33 : decode cX8_letterHere 33 = .ok (.getfield 31, 3) := by decide +kernel
theorem dX8_letterHere_36 : decode cX8_letterHere 36 = .ok (.iaload, 1) := by decide +kernel
theorem dX8_letterHere_37 : decode cX8_letterHere 37 = .ok (.goto 4, 3) := by decide +kernel
theorem dX8_letterHere_40 : decode cX8_letterHere 40 = .ok (.iconst (-1), 1) := by decide +kernel
theorem dX8_letterHere_41 : decode cX8_letterHere 41 = .ok (.ireturn, 1) := by decide +kernel
theorem dX8_isFigure_0 : decode cX8_isFigure 0 = .ok (.iload_n 0, 1) := by decide +kernel
theorem dX8_isFigure_1 : decode cX8_isFigure 1 = .ok (.bipush 48, 2) := by decide +kernel
theorem dX8_isFigure_3 : decode cX8_isFigure 3 = .ok (.bipush 57, 2) := by decide +kernel
theorem dX8_isFigure_5 : decode cX8_isFigure 5 = .ok (.invokestatic 22, 3) := by decide +kernel
theorem dX8_isFigure_8 : decode cX8_isFigure 8 = .ok (.ireturn, 1) := by decide +kernel
theorem dX8_blame_0 : decode cX8_blame 0 = .ok (.aload_n 0, 1) := by decide +kernel
theorem dX8_blame_1 : decode cX8_blame 1 = .ok (.getfield 34, 3) := by decide +kernel
theorem dX8_blame_4 : decode cX8_blame 4 = .ok (.ifCond .ne 13, 3) := by decide +kernel
theorem dX8_blame_7 : decode cX8_blame 7 = .ok (.aload_n 0, 1) := by decide +kernel
theorem dX8_blame_8 : decode cX8_blame 8 = .ok (.iload_n 1, 1) := by decide +kernel
theorem dX8_blame_9 : decode cX8_blame 9 = .ok (.putfield 34, 3) := by decide +kernel
theorem dX8_blame_12 : decode cX8_blame 12 = .ok (.aload_n 0, 1) := by decide +kernel
theorem dX8_blame_13 : decode cX8_blame 13 = .ok (.iload_n 2, 1) := by decide +kernel
theorem dX8_blame_14 : decode cX8_blame 14 = .ok (.putfield 15, 3) := by decide +kernel
theorem dX8_blame_17 : decode cX8_blame 17 = .ok (.return_, 1) := by decide +kernel
theorem dX9_init_0 : decode cX9_init 0 = .ok (.aload_n 0, 1) := by decide +kernel
theorem dX9_init_1 : decode cX9_init 1 = .ok (.invokespecial 1, 3) := by decide +kernel
theorem dX9_init_4 : decode cX9_init 4 = .ok (.aload_n 0, 1) := by decide +kernel
theorem dX9_init_5 : decode cX9_init 5 = .ok (.new 7, 3) := by decide +kernel
theorem dX9_init_8 : decode cX9_init 8 = .ok (.dup, 1) := by decide +kernel
theorem dX9_init_9 : decode cX9_init 9 = .ok (.invokespecial 9, 3) := by decide +kernel
theorem dX9_init_12 : decode cX9_init 12 = .ok (.putfield 10, 3) := by decide +kernel
theorem dX9_init_15 : decode cX9_init 15 = .ok (.aload_n 0, 1) := by decide +kernel
theorem dX9_init_16 : decode cX9_init 16 = .ok (.new 16, 3) := by decide +kernel
theorem dX9_init_19 : decode cX9_init 19 = .ok (.dup, 1) := by decide +kernel
theorem dX9_init_20 : decode cX9_init 20 = .ok (.invokespecial 18, 3) := by decide +kernel
theorem dX9_init_23 : decode cX9_init 23 = .ok (.putfield 19, 3) := by decide +kernel
theorem dX9_init_26 : decode cX9_init 26 = .ok (.aload_n 0, 1) := by decide +kernel
theorem dX9_init_27 : decode cX9_init 27 = .ok (.new 16, 3) := by decide +kernel
theorem dX9_init_30 : decode cX9_init 30 = .ok (.dup, 1) := by decide +kernel
theorem dX9_init_31 : decode cX9_init 31 = .ok (.invokespecial 18, 3) := by decide +kernel
theorem dX9_init_34 : decode cX9_init 34 = .ok (.putfield 23, 3) := by decide +kernel
theorem dX9_init_37 : decode cX9_init 37 = .ok (.aload_n 0, 1) := by decide +kernel
theorem dX9_init_38 : decode cX9_init 38 = .ok (.new 26, 3) := by decide +kernel
theorem dX9_init_41 : decode cX9_init 41 = .ok (.dup, 1) := by decide +kernel
theorem dX9_init_42 : decode cX9_init 42 = .ok (.invokespecial 28, 3) := by decide +kernel
theorem dX9_init_45 : decode cX9_init 45 = .ok (.putfield 29, 3) := by decide +kernel
theorem dX9_init_48 : decode cX9_init 48 = .ok (.aload_n 0, 1) := by decide +kernel
theorem dX9_init_49 : decode cX9_init 49 = .ok (.new 33, 3) := by decide +kernel
theorem dX9_init_52 : decode cX9_init 52 = .ok (.dup, 1) := by decide +kernel
theorem dX9_init_53 : decode cX9_init 53 = .ok (.invokespecial 35, 3) := by decide +kernel
theorem dX9_init_56 : decode cX9_init 56 = .ok (.putfield 36, 3) := by decide +kernel
theorem dX9_init_59 : decode cX9_init 59 = .ok (.aload_n 0, 1) := by decide +kernel
theorem dX9_init_60 : decode cX9_init 60 = .ok (.new 40, 3) := by decide +kernel
theorem dX9_init_63 : decode cX9_init 63 = .ok (.dup, 1) := by decide +kernel
theorem dX9_init_64 : decode cX9_init 64 = .ok (.invokespecial 42, 3) := by decide +kernel
theorem dX9_init_67 : decode cX9_init 67 = .ok (.putfield 43, 3) := by decide +kernel
theorem dX9_init_70 : decode cX9_init 70 = .ok (.aload_n 0, 1) := by decide +kernel
theorem dX9_init_71 : decode cX9_init 71 = .ok (.new 47, 3) := by decide +kernel
theorem dX9_init_74 : decode cX9_init 74 = .ok (.dup, 1) := by decide +kernel
theorem dX9_init_75 : decode cX9_init 75 = .ok (.invokespecial 49, 3) := by decide +kernel
theorem dX9_init_78 : decode cX9_init 78 = .ok (.putfield 50, 3) := by decide +kernel
theorem dX9_init_81 : decode cX9_init 81 = .ok (.aload_n 0, 1) := by decide +kernel
theorem dX9_init_82 : decode cX9_init 82 = .ok (.new 54, 3) := by decide +kernel
theorem dX9_init_85 : decode cX9_init 85 = .ok (.dup, 1) := by decide +kernel
theorem dX9_init_86 : decode cX9_init 86 = .ok (.invokespecial 56, 3) := by decide +kernel
theorem dX9_init_89 : decode cX9_init 89 = .ok (.putfield 57, 3) := by decide +kernel
theorem dX9_init_92 : decode cX9_init 92 = .ok (.aload_n 0, 1) := by decide +kernel
theorem dX9_init_93 : decode cX9_init 93 = .ok (.new 54, 3) := by decide +kernel
theorem dX9_init_96 : decode cX9_init 96 = .ok (.dup, 1) := by decide +kernel
theorem dX9_init_97 : decode cX9_init 97 = .ok (.invokespecial 56, 3) := by decide +kernel
theorem dX9_init_100 : decode cX9_init 100 = .ok (.putfield 61, 3) := by decide +kernel
theorem dX9_init_103 : decode cX9_init 103 = .ok (.return_, 1) := by decide +kernel
theorem dX9_feed_0 : decode cX9_feed 0 = .ok (.iconst 1, 1) := by decide +kernel
theorem dX9_feed_1 : decode cX9_feed 1 = .ok (.iload_n 1, 1) := by decide +kernel
theorem dX9_feed_2 : decode cX9_feed 2 = .ok (.iconst 0, 1) := by decide +kernel
theorem dX9_feed_3 : decode cX9_feed 3 = .ok (.sipush 255, 3) := by decide +kernel
theorem dX9_feed_6 : decode cX9_feed 6 = .ok (.invokestatic 64, 3) := by decide +kernel
theorem dX9_feed_9 : decode cX9_feed 9 = .ok (.iconst 1, 1) := by decide +kernel
theorem dX9_feed_10 : decode cX9_feed 10 = .ok (.aload_n 0, 1) := by decide +kernel
theorem dX9_feed_11 : decode cX9_feed 11 = .ok (.getfield 10, 3) := by decide +kernel
theorem dX9_feed_14 : decode cX9_feed 14 = .ok (.invokevirtual 68, 3) := by decide +kernel
theorem dX9_feed_17 : decode cX9_feed 17 = .ok (.invokestatic 72, 3) := by decide +kernel
theorem dX9_feed_20 : decode cX9_feed 20 = .ok (.istore_n 2, 1) := by decide +kernel
theorem dX9_feed_21 : decode cX9_feed 21 = .ok (.iload_n 2, 1) := by decide +kernel
theorem dX9_feed_22 : decode cX9_feed 22 = .ok (.ifCond .eq 7, 3) := by decide +kernel
theorem dX9_feed_25 : decode cX9_feed 25 = .ok (.iload_n 2, 1) := by decide +kernel
theorem dX9_feed_26 : decode cX9_feed 26 = .ok (.goto 11, 3) := by decide +kernel
theorem dX9_feed_29 : decode cX9_feed 29 = .ok (.aload_n 0, 1) := by decide +kernel
theorem dX9_feed_30 : decode cX9_feed 30 = .ok (.getfield 10, 3) := by decide +kernel
theorem dX9_feed_33 : decode cX9_feed 33 = .ok (.iload_n 1, 1) := by decide +kernel
theorem dX9_feed_34 : decode cX9_feed 34 = .ok (.invokevirtual 76, 3) := by decide +kernel
theorem dX9_feed_37 : decode cX9_feed 37 = .ok (.ireturn, 1) := by decide +kernel
theorem dX9_place_0 : decode cX9_place 0 = .ok (.aload_n 0, 1) := by decide +kernel
theorem dX9_place_1 : decode cX9_place 1 = .ok (.getfield 10, 3) := by decide +kernel
theorem dX9_place_4 : decode cX9_place 4 = .ok (.aload_n 0, 1) := by decide +kernel
theorem dX9_place_5 : decode cX9_place 5 = .ok (.getfield 23, 3) := by decide +kernel
theorem dX9_place_8 : decode cX9_place 8 = .ok (.invokevirtual 80, 3) := by decide +kernel
theorem dX9_place_11 : decode cX9_place 11 = .ok (.istore_n 1, 1) := by decide +kernel
theorem dX9_place_12 : decode cX9_place 12 = .ok (.aload_n 0, 1) := by decide +kernel
theorem dX9_place_13 : decode cX9_place 13 = .ok (.getfield 10, 3) := by decide +kernel
theorem dX9_place_16 : decode cX9_place 16 = .ok (.invokevirtual 84, 3) := by decide +kernel
theorem dX9_place_19 : decode cX9_place 19 = .ok (.iload_n 1, 1) := by decide +kernel
theorem dX9_place_20 : decode cX9_place 20 = .ok (.ifCond .eq 8, 3) := by decide +kernel
theorem dX9_place_23 : decode cX9_place 23 = .ok (.bipush (-10), 2) := by decide +kernel
theorem dX9_place_25 : decode cX9_place 25 = .ok (.iload_n 1, 1) := by decide +kernel
theorem dX9_place_26 : decode cX9_place 26 = .ok (.isub, 1) := by decide +kernel
theorem dX9_place_27 : decode cX9_place 27 = .ok (.ireturn, 1) := by decide +kernel
theorem dX9_place_28 : decode cX9_place 28 = .ok (.aload_n 0, 1) := by decide +kernel
theorem dX9_place_29 : decode cX9_place 29 = .ok (.getfield 19, 3) := by decide +kernel
theorem dX9_place_32 : decode cX9_place 32 = .ok (.aload_n 0, 1) := by decide +kernel
theorem dX9_place_33 : decode cX9_place 33 = .ok (.getfield 23, 3) := by decide +kernel
theorem dX9_place_36 : decode cX9_place 36 = .ok (.invokevirtual 87, 3) := by decide +kernel
theorem dX9_place_39 : decode cX9_place 39 = .ok (.aload_n 0, 1) := by decide +kernel
theorem dX9_place_40 : decode cX9_place 40 = .ok (.getfield 29, 3) := by decide +kernel
theorem dX9_place_43 : decode cX9_place 43 = .ok (.invokevirtual 91, 3) := by decide +kernel
theorem dX9_place_46 : decode cX9_place 46 = .ok (.aload_n 0, 1) := by decide +kernel
theorem dX9_place_47 : decode cX9_place 47 = .ok (.getfield 36, 3) := by decide +kernel
theorem dX9_place_50 : decode cX9_place 50 = .ok (.invokevirtual 92, 3) := by decide +kernel
theorem dX9_place_53 : decode cX9_place 53 = .ok (.aload_n 0, 1) := by decide +kernel
theorem dX9_place_54 : decode cX9_place 54 = .ok (.getfield 43, 3) := by decide +kernel
theorem dX9_place_57 : decode cX9_place 57 = .ok (.invokevirtual 93, 3) := by decide +kernel
theorem dX9_place_60 : decode cX9_place 60 = .ok (.aload_n 0, 1) := by decide +kernel
theorem dX9_place_61 : decode cX9_place 61 = .ok (.getfield 57, 3) := by decide +kernel
theorem dX9_place_64 : decode cX9_place 64 = .ok (.invokevirtual 94, 3) := by decide +kernel
theorem dX9_place_67 : decode cX9_place 67 = .ok (.aload_n 0, 1) := by decide +kernel
theorem dX9_place_68 : decode cX9_place 68 = .ok (.getfield 61, 3) := by decide +kernel
theorem dX9_place_71 : decode cX9_place 71 = .ok (.invokevirtual 94, 3) := by decide +kernel
theorem dX9_place_74 : decode cX9_place 74 = .ok (.aload_n 0, 1) := by decide +kernel
theorem dX9_place_75 : decode cX9_place 75 = .ok (.getfield 19, 3) := by decide +kernel
theorem dX9_place_78 : decode cX9_place 78 = .ok (.getfield 97, 3) := by decide +kernel
theorem dX9_place_81 : decode cX9_place 81 = .ok (.ireturn, 1) := by decide +kernel
theorem dX9_fault_0 : decode cX9_fault 0 = .ok (.aload_n 0, 1) := by decide +kernel
theorem dX9_fault_1 : decode cX9_fault 1 = .ok (.getfield 10, 3) := by decide +kernel
theorem dX9_fault_4 : decode cX9_fault 4 = .ok (.getfield 101, 3) := by decide +kernel
theorem dX9_fault_7 : decode cX9_fault 7 = .ok (.ireturn, 1) := by decide +kernel
theorem dX9_told_0 : decode cX9_told 0 = .ok (.iload_n 1, 1) := by decide +kernel
theorem dX9_told_1 : decode cX9_told 1 = .ok (.tableswitch 123 0 8 #[51, 59, 67, 75, 83, 91, 99, 107, 115], 51) := by decide +kernel
theorem dX9_told_52 : decode cX9_told 52 = .ok (.aload_n 0, 1) := by decide +kernel
theorem dX9_told_53 : decode cX9_told 53 = .ok (.getfield 19, 3) := by decide +kernel
theorem dX9_told_56 : decode cX9_told 56 = .ok (.getfield 97, 3) := by decide +kernel
theorem dX9_told_59 : decode cX9_told 59 = .ok (.ireturn, 1) := by decide +kernel
theorem dX9_told_60 : decode cX9_told 60 = .ok (.aload_n 0, 1) := by decide +kernel
theorem dX9_told_61 : decode cX9_told 61 = .ok (.getfield 10, 3) := by decide +kernel
theorem dX9_told_64 : decode cX9_told 64 = .ok (.getfield 104, 3) := by decide +kernel
theorem dX9_told_67 : decode cX9_told 67 = .ok (.ireturn, 1) := by decide +kernel
theorem dX9_told_68 : decode cX9_told 68 = .ok (.aload_n 0, 1) := by decide +kernel
theorem dX9_told_69 : decode cX9_told 69 = .ok (.getfield 19, 3) := by decide +kernel
theorem dX9_told_72 : decode cX9_told 72 = .ok (.getfield 107, 3) := by decide +kernel
theorem dX9_told_75 : decode cX9_told 75 = .ok (.ireturn, 1) := by decide +kernel
theorem dX9_told_76 : decode cX9_told 76 = .ok (.aload_n 0, 1) := by decide +kernel
theorem dX9_told_77 : decode cX9_told 77 = .ok (.getfield 19, 3) := by decide +kernel
theorem dX9_told_80 : decode cX9_told 80 = .ok (.invokevirtual 110, 3) := by decide +kernel
theorem dX9_told_83 : decode cX9_told 83 = .ok (.ireturn, 1) := by decide +kernel
theorem dX9_told_84 : decode cX9_told 84 = .ok (.aload_n 0, 1) := by decide +kernel
theorem dX9_told_85 : decode cX9_told 85 = .ok (.getfield 19, 3) := by decide +kernel
theorem dX9_told_88 : decode cX9_told 88 = .ok (.invokevirtual 114, 3) := by decide +kernel
theorem dX9_told_91 : decode cX9_told 91 = .ok (.ireturn, 1) := by decide +kernel
theorem dX9_told_92 : decode cX9_told 92 = .ok (.aload_n 0, 1) := by decide +kernel
theorem dX9_told_93 : decode cX9_told 93 = .ok (.getfield 19, 3) := by decide +kernel
theorem dX9_told_96 : decode cX9_told 96 = .ok (.invokevirtual 117, 3) := by decide +kernel
theorem dX9_told_99 : decode cX9_told 99 = .ok (.ireturn, 1) := by decide +kernel
theorem dX9_told_100 : decode cX9_told 100 = .ok (.aload_n 0, 1) := by decide +kernel
theorem dX9_told_101 : decode cX9_told 101 = .ok (.getfield 36, 3) := by decide +kernel
theorem dX9_told_104 : decode cX9_told 104 = .ok (.getfield 120, 3) := by decide +kernel
theorem dX9_told_107 : decode cX9_told 107 = .ok (.ireturn, 1) := by decide +kernel
theorem dX9_told_108 : decode cX9_told 108 = .ok (.aload_n 0, 1) := by decide +kernel
theorem dX9_told_109 : decode cX9_told 109 = .ok (.getfield 43, 3) := by decide +kernel
theorem dX9_told_112 : decode cX9_told 112 = .ok (.getfield 121, 3) := by decide +kernel
theorem dX9_told_115 : decode cX9_told 115 = .ok (.ireturn, 1) := by decide +kernel
theorem dX9_told_116 : decode cX9_told 116 = .ok (.aload_n 0, 1) := by decide +kernel
theorem dX9_told_117 : decode cX9_told 117 = .ok (.getfield 29, 3) := by decide +kernel
theorem dX9_told_120 : decode cX9_told 120 = .ok (.getfield 122, 3) := by decide +kernel
theorem dX9_told_123 : decode cX9_told 123 = .ok (.ireturn, 1) := by decide +kernel
theorem dX9_told_124 : decode cX9_told 124 = .ok (.ldc 123, 2) := by decide +kernel
theorem dX9_told_126 : decode cX9_told 126 = .ok (.ireturn, 1) := by decide +kernel
theorem dX9_person_0 : decode cX9_person 0 = .ok (.aload_n 0, 1) := by decide +kernel
theorem dX9_person_1 : decode cX9_person 1 = .ok (.getfield 19, 3) := by decide +kernel
theorem dX9_person_4 : decode cX9_person 4 = .ok (.iload_n 1, 1) := by decide +kernel
theorem dX9_person_5 : decode cX9_person 5 = .ok (.invokevirtual 124, 3) := by decide +kernel
theorem dX9_person_8 : decode cX9_person 8 = .ok (.ifCond .ne 6, 3) := by decide +kernel
theorem dX9_person_11 : decode cX9_person 11 = .ok (.ldc 128, 2) := by decide +kernel
theorem dX9_person_13 : decode cX9_person 13 = .ok (.ireturn, 1) := by decide +kernel
theorem dX9_person_14 : decode cX9_person 14 = .ok (.iload_n 2, 1) := by decide +kernel
theorem dX9_person_15 : decode cX9_person 15 = .ok (.tableswitch 78 0 4 #[33, 42, 51, 60, 69], 33) := by decide +kernel
theorem dX9_person_48 : decode cX9_person 48 = .ok (.aload_n 0, 1) := by decide +kernel
theorem dX9_person_49 : decode cX9_person 49 = .ok (.getfield 19, 3) := by decide +kernel
theorem dX9_person_52 : decode cX9_person 52 = .ok (.iload_n 1, 1) := by decide +kernel
theorem dX9_person_53 : decode cX9_person 53 = .ok (.invokevirtual 129, 3) := by decide +kernel
theorem dX9_person_56 : decode cX9_person 56 = .ok (.ireturn, 1) := by decide +kernel
theorem dX9_person_57 : decode cX9_person 57 = .ok (.aload_n 0, 1) := by decide +kernel
theorem dX9_person_58 : decode cX9_person 58 = .ok (.getfield 19, 3) := by decide +kernel
theorem dX9_person_61 : decode cX9_person 61 = .ok (.iload_n 1, 1) := by decide +kernel
theorem dX9_person_62 : decode cX9_person 62 = .ok (.invokevirtual 132, 3) := by decide +kernel
theorem dX9_person_65 : decode cX9_person 65 = .ok (.ireturn, 1) := by decide +kernel
theorem dX9_person_66 : decode cX9_person 66 = .ok (.aload_n 0, 1) := by decide +kernel
theorem dX9_person_67 : decode cX9_person 67 = .ok (.getfield 19, 3) := by decide +kernel
theorem dX9_person_70 : decode cX9_person 70 = .ok (.iload_n 1, 1) := by decide +kernel
theorem dX9_person_71 : decode cX9_person 71 = .ok (.invokevirtual 135, 3) := by decide +kernel
theorem dX9_person_74 : decode cX9_person 74 = .ok (.ireturn, 1) := by decide +kernel
theorem dX9_person_75 : decode cX9_person 75 = .ok (.aload_n 0, 1) := by decide +kernel
theorem dX9_person_76 : decode cX9_person 76 = .ok (.getfield 19, 3) := by decide +kernel
theorem dX9_person_79 : decode cX9_person 79 = .ok (.iload_n 1, 1) := by decide +kernel
theorem dX9_person_80 : decode cX9_person 80 = .ok (.invokevirtual 138, 3) := by decide +kernel
theorem dX9_person_83 : decode cX9_person 83 = .ok (.ireturn, 1) := by decide +kernel
theorem dX9_person_84 : decode cX9_person 84 = .ok (.aload_n 0, 1) := by decide +kernel
theorem dX9_person_85 : decode cX9_person 85 = .ok (.getfield 19, 3) := by decide +kernel
theorem dX9_person_88 : decode cX9_person 88 = .ok (.iload_n 1, 1) := by decide +kernel
theorem dX9_person_89 : decode cX9_person 89 = .ok (.invokevirtual 141, 3) := by decide +kernel
theorem dX9_person_92 : decode cX9_person 92 = .ok (.ireturn, 1) := by decide +kernel
theorem dX9_person_93 : decode cX9_person 93 = .ok (.ldc 123, 2) := by decide +kernel
theorem dX9_person_95 : decode cX9_person 95 = .ok (.ireturn, 1) := by decide +kernel
theorem dX9_remembers_0 : decode cX9_remembers 0 = .ok (.aload_n 0, 1) := by decide +kernel
theorem dX9_remembers_1 : decode cX9_remembers 1 = .ok (.getfield 19, 3) := by decide +kernel
theorem dX9_remembers_4 : decode cX9_remembers 4 = .ok (.iload_n 1, 1) := by decide +kernel
theorem dX9_remembers_5 : decode cX9_remembers 5 = .ok (.iload_n 2, 1) := by decide +kernel
theorem dX9_remembers_6 : decode cX9_remembers 6 = .ok (.invokevirtual 144, 3) := by decide +kernel
theorem dX9_remembers_9 : decode cX9_remembers 9 = .ok (.ifCond .eq 15, 3) := by decide +kernel
theorem dX9_remembers_12 : decode cX9_remembers 12 = .ok (.aload_n 0, 1) := by decide +kernel
theorem dX9_remembers_13 : decode cX9_remembers 13 = .ok (.getfield 19, 3) := by decide +kernel
theorem dX9_remembers_16 : decode cX9_remembers 16 = .ok (.iload_n 1, 1) := by decide +kernel
theorem dX9_remembers_17 : decode cX9_remembers 17 = .ok (.iload_n 2, 1) := by decide +kernel
theorem dX9_remembers_18 : decode cX9_remembers 18 = .ok (.invokevirtual 148, 3) := by decide +kernel
theorem dX9_remembers_21 : decode cX9_remembers 21 = .ok (.goto 5, 3) := by decide +kernel
theorem dX9_remembers_24 : decode cX9_remembers 24 = .ok (.ldc 128, 2) := by decide +kernel
theorem dX9_remembers_26 : decode cX9_remembers 26 = .ok (.ireturn, 1) := by decide +kernel
theorem dX9_year_0 : decode cX9_year 0 = .ok (.aload_n 0, 1) := by decide +kernel
theorem dX9_year_1 : decode cX9_year 1 = .ok (.iload_n 1, 1) := by decide +kernel
theorem dX9_year_2 : decode cX9_year 2 = .ok (.invokevirtual 152, 3) := by decide +kernel
theorem dX9_year_5 : decode cX9_year 5 = .ok (.istore_n 2, 1) := by decide +kernel
theorem dX9_year_6 : decode cX9_year 6 = .ok (.iload_n 2, 1) := by decide +kernel
theorem dX9_year_7 : decode cX9_year 7 = .ok (.ifCond .eq 5, 3) := by decide +kernel
theorem dX9_year_10 : decode cX9_year 10 = .ok (.iload_n 2, 1) := by decide +kernel
theorem dX9_year_11 : decode cX9_year 11 = .ok (.ireturn, 1) := by decide +kernel
theorem dX9_year_12 : decode cX9_year 12 = .ok (.aload_n 0, 1) := by decide +kernel
theorem dX9_year_13 : decode cX9_year 13 = .ok (.getfield 29, 3) := by decide +kernel
theorem dX9_year_16 : decode cX9_year 16 = .ok (.aload_n 0, 1) := by decide +kernel
theorem dX9_year_17 : decode cX9_year 17 = .ok (.getfield 19, 3) := by decide +kernel
theorem dX9_year_20 : decode cX9_year 20 = .ok (.invokevirtual 155, 3) := by decide +kernel
theorem dX9_year_23 : decode cX9_year 23 = .ok (.aload_n 0, 1) := by decide +kernel
theorem dX9_year_24 : decode cX9_year 24 = .ok (.getfield 19, 3) := by decide +kernel
theorem dX9_year_27 : decode cX9_year 27 = .ok (.iload_n 1, 1) := by decide +kernel
theorem dX9_year_28 : decode cX9_year 28 = .ok (.invokevirtual 158, 3) := by decide +kernel
theorem dX9_year_31 : decode cX9_year 31 = .ok (.aload_n 0, 1) := by decide +kernel
theorem dX9_year_32 : decode cX9_year 32 = .ok (.getfield 19, 3) := by decide +kernel
theorem dX9_year_35 : decode cX9_year 35 = .ok (.getfield 107, 3) := by decide +kernel
theorem dX9_year_38 : decode cX9_year 38 = .ok (.ireturn, 1) := by decide +kernel
theorem dX9_meet_0 : decode cX9_meet 0 = .ok (.aload_n 0, 1) := by decide +kernel
theorem dX9_meet_1 : decode cX9_meet 1 = .ok (.getfield 19, 3) := by decide +kernel
theorem dX9_meet_4 : decode cX9_meet 4 = .ok (.iload_n 1, 1) := by decide +kernel
theorem dX9_meet_5 : decode cX9_meet 5 = .ok (.iload_n 2, 1) := by decide +kernel
theorem dX9_meet_6 : decode cX9_meet 6 = .ok (.invokevirtual 144, 3) := by decide +kernel
theorem dX9_meet_9 : decode cX9_meet 9 = .ok (.ifCond .ne 6, 3) := by decide +kernel
theorem dX9_meet_12 : decode cX9_meet 12 = .ok (.ldc 128, 2) := by decide +kernel
theorem dX9_meet_14 : decode cX9_meet 14 = .ok (.ireturn, 1) := by decide +kernel
theorem dX9_meet_15 : decode cX9_meet 15 = .ok (.aload_n 0, 1) := by decide +kernel
theorem dX9_meet_16 : decode cX9_meet 16 = .ok (.getfield 29, 3) := by decide +kernel
theorem dX9_meet_19 : decode cX9_meet 19 = .ok (.aload_n 0, 1) := by decide +kernel
theorem dX9_meet_20 : decode cX9_meet 20 = .ok (.getfield 19, 3) := by decide +kernel
theorem dX9_meet_23 : decode cX9_meet 23 = .ok (.invokevirtual 155, 3) := by decide +kernel
theorem dX9_meet_26 : decode cX9_meet 26 = .ok (.aload_n 0, 1) := by decide +kernel
theorem dX9_meet_27 : decode cX9_meet 27 = .ok (.getfield 19, 3) := by decide +kernel
theorem dX9_meet_30 : decode cX9_meet 30 = .ok (.iload_n 1, 1) := by decide +kernel
theorem dX9_meet_31 : decode cX9_meet 31 = .ok (.iload_n 2, 1) := by decide +kernel
theorem dX9_meet_32 : decode cX9_meet 32 = .ok (.invokevirtual 148, 3) := by decide +kernel
theorem dX9_meet_35 : decode cX9_meet 35 = .ok (.istore_n 3, 1) := by decide +kernel
theorem dX9_meet_36 : decode cX9_meet 36 = .ok (.aload_n 0, 1) := by decide +kernel
theorem dX9_meet_37 : decode cX9_meet 37 = .ok (.getfield 19, 3) := by decide +kernel
theorem dX9_meet_40 : decode cX9_meet 40 = .ok (.iload_n 1, 1) := by decide +kernel
theorem dX9_meet_41 : decode cX9_meet 41 = .ok (.iload_n 2, 1) := by decide +kernel
theorem dX9_meet_42 : decode cX9_meet 42 = .ok (.invokevirtual 162, 3) := by decide +kernel
theorem dX9_meet_45 : decode cX9_meet 45 = .ok (.iload_n 3, 1) := by decide +kernel
theorem dX9_meet_46 : decode cX9_meet 46 = .ok (.iconst (-1), 1) := by decide +kernel
theorem dX9_meet_47 : decode cX9_meet 47 = .ok (.if_icmp .ne 7, 3) := by decide +kernel
theorem dX9_meet_50 : decode cX9_meet 50 = .ok (.iconst (-1), 1) := by decide +kernel
theorem dX9_meet_51 : decode cX9_meet 51 = .ok (.goto 15, 3) := by decide +kernel
theorem dX9_meet_54 : decode cX9_meet 54 = .ok (.iload_n 3, 1) := by decide +kernel
theorem dX9_meet_55 : decode cX9_meet 55 = .ok (.aload_n 0, 1) := by decide +kernel
theorem dX9_meet_56 : decode cX9_meet 56 = .ok (.getfield 19, 3) := by decide +kernel
theorem dX9_meet_59 : decode cX9_meet 59 = .ok (.iload_n 2, 1) := by decide +kernel
theorem dX9_meet_60 : decode cX9_meet 60 = .ok (.invokevirtual 129, 3) := by decide +kernel
theorem dX9_meet_63 : decode cX9_meet 63 = .ok (.invokestatic 166, 3) := by decide +kernel
theorem dX9_meet_66 : decode cX9_meet 66 = .ok (.ireturn, 1) := by decide +kernel
theorem dX9_forget_0 : decode cX9_forget 0 = .ok (.aload_n 0, 1) := by decide +kernel
theorem dX9_forget_1 : decode cX9_forget 1 = .ok (.getfield 19, 3) := by decide +kernel
theorem dX9_forget_4 : decode cX9_forget 4 = .ok (.iload_n 1, 1) := by decide +kernel
theorem dX9_forget_5 : decode cX9_forget 5 = .ok (.iload_n 2, 1) := by decide +kernel
theorem dX9_forget_6 : decode cX9_forget 6 = .ok (.invokevirtual 144, 3) := by decide +kernel
theorem dX9_forget_9 : decode cX9_forget 9 = .ok (.iconst 1, 1) := by decide +kernel
theorem dX9_forget_10 : decode cX9_forget 10 = .ok (.aload_n 0, 1) := by decide +kernel
theorem dX9_forget_11 : decode cX9_forget 11 = .ok (.getfield 19, 3) := by decide +kernel
theorem dX9_forget_14 : decode cX9_forget 14 = .ok (.iload_n 1, 1) := by decide +kernel
theorem dX9_forget_15 : decode cX9_forget 15 = .ok (.iload_n 2, 1) := by decide +kernel
theorem dX9_forget_16 : decode cX9_forget 16 = .ok (.invokevirtual 171, 3) := by decide +kernel
theorem dX9_forget_19 : decode cX9_forget 19 = .ok (.iconst 1, 1) := by decide +kernel
theorem dX9_forget_20 : decode cX9_forget 20 = .ok (.invokestatic 72, 3) := by decide +kernel
theorem dX9_forget_23 : decode cX9_forget 23 = .ok (.istore_n 3, 1) := by decide +kernel
theorem dX9_forget_24 : decode cX9_forget 24 = .ok (.iload_n 3, 1) := by decide +kernel
theorem dX9_forget_25 : decode cX9_forget 25 = .ok (.ifCond .eq 5, 3) := by decide +kernel
theorem dX9_forget_28 : decode cX9_forget 28 = .ok (.iload_n 3, 1) := by decide +kernel
theorem dX9_forget_29 : decode cX9_forget 29 = .ok (.ireturn, 1) := by decide +kernel
theorem dX9_forget_30 : decode cX9_forget 30 = .ok (.aload_n 0, 1) := by decide +kernel
theorem dX9_forget_31 : decode cX9_forget 31 = .ok (.getfield 29, 3) := by decide +kernel
theorem dX9_forget_34 : decode cX9_forget 34 = .ok (.aload_n 0, 1) := by decide +kernel
theorem dX9_forget_35 : decode cX9_forget 35 = .ok (.getfield 19, 3) := by decide +kernel
theorem dX9_forget_38 : decode cX9_forget 38 = .ok (.invokevirtual 155, 3) := by decide +kernel
theorem dX9_forget_41 : decode cX9_forget 41 = .ok (.aload_n 0, 1) := by decide +kernel
theorem dX9_forget_42 : decode cX9_forget 42 = .ok (.getfield 19, 3) := by decide +kernel
theorem dX9_forget_45 : decode cX9_forget 45 = .ok (.iload_n 1, 1) := by decide +kernel
theorem dX9_forget_46 : decode cX9_forget 46 = .ok (.iload_n 2, 1) := by decide +kernel
theorem dX9_forget_47 : decode cX9_forget 47 = .ok (.invokevirtual 148, 3) := by decide +kernel
theorem dX9_forget_50 : decode cX9_forget 50 = .ok (.istore 4, 2) := by decide +kernel
theorem dX9_forget_52 : decode cX9_forget 52 = .ok (.aload_n 0, 1) := by decide +kernel
theorem dX9_forget_53 : decode cX9_forget 53 = .ok (.getfield 19, 3) := by decide +kernel
theorem dX9_forget_56 : decode cX9_forget 56 = .ok (.iload_n 1, 1) := by decide +kernel
theorem dX9_forget_57 : decode cX9_forget 57 = .ok (.iload_n 2, 1) := by decide +kernel
theorem dX9_forget_58 : decode cX9_forget 58 = .ok (.invokevirtual 174, 3) := by decide +kernel
theorem dX9_forget_61 : decode cX9_forget 61 = .ok (.iload 4, 2) := by decide +kernel
theorem dX9_forget_63 : decode cX9_forget 63 = .ok (.ireturn, 1) := by decide +kernel
theorem dX9_parade_0 : decode cX9_parade 0 = .ok (.aload_n 0, 1) := by decide +kernel
theorem dX9_parade_1 : decode cX9_parade 1 = .ok (.iload_n 1, 1) := by decide +kernel
theorem dX9_parade_2 : decode cX9_parade 2 = .ok (.iload_n 2, 1) := by decide +kernel
theorem dX9_parade_3 : decode cX9_parade 3 = .ok (.iload_n 3, 1) := by decide +kernel
theorem dX9_parade_4 : decode cX9_parade 4 = .ok (.invokevirtual 177, 3) := by decide +kernel
theorem dX9_parade_7 : decode cX9_parade 7 = .ok (.iload_n 3, 1) := by decide +kernel
theorem dX9_parade_8 : decode cX9_parade 8 = .ok (.invokestatic 180, 3) := by decide +kernel
theorem dX9_parade_11 : decode cX9_parade 11 = .ok (.aload_n 0, 1) := by decide +kernel
theorem dX9_parade_12 : decode cX9_parade 12 = .ok (.getfield 19, 3) := by decide +kernel
theorem dX9_parade_15 : decode cX9_parade 15 = .ok (.iload_n 1, 1) := by decide +kernel
theorem dX9_parade_16 : decode cX9_parade 16 = .ok (.iload_n 2, 1) := by decide +kernel
theorem dX9_parade_17 : decode cX9_parade 17 = .ok (.invokevirtual 171, 3) := by decide +kernel
theorem dX9_parade_20 : decode cX9_parade 20 = .ok (.iconst 1, 1) := by decide +kernel
theorem dX9_parade_21 : decode cX9_parade 21 = .ok (.invokestatic 72, 3) := by decide +kernel
theorem dX9_parade_24 : decode cX9_parade 24 = .ok (.istore 4, 2) := by decide +kernel
theorem dX9_parade_26 : decode cX9_parade 26 = .ok (.iload 4, 2) := by decide +kernel
theorem dX9_parade_28 : decode cX9_parade 28 = .ok (.ifCond .eq 6, 3) := by decide +kernel
theorem dX9_parade_31 : decode cX9_parade 31 = .ok (.iload 4, 2) := by decide +kernel
theorem dX9_parade_33 : decode cX9_parade 33 = .ok (.ireturn, 1) := by decide +kernel
theorem dX9_parade_34 : decode cX9_parade 34 = .ok (.aload_n 0, 1) := by decide +kernel
theorem dX9_parade_35 : decode cX9_parade 35 = .ok (.getfield 29, 3) := by decide +kernel
theorem dX9_parade_38 : decode cX9_parade 38 = .ok (.aload_n 0, 1) := by decide +kernel
theorem dX9_parade_39 : decode cX9_parade 39 = .ok (.getfield 19, 3) := by decide +kernel
theorem dX9_parade_42 : decode cX9_parade 42 = .ok (.invokevirtual 155, 3) := by decide +kernel
theorem dX9_parade_45 : decode cX9_parade 45 = .ok (.aload_n 0, 1) := by decide +kernel
theorem dX9_parade_46 : decode cX9_parade 46 = .ok (.getfield 19, 3) := by decide +kernel
theorem dX9_parade_49 : decode cX9_parade 49 = .ok (.aload_n 0, 1) := by decide +kernel
theorem dX9_parade_50 : decode cX9_parade 50 = .ok (.getfield 19, 3) := by decide +kernel
theorem dX9_parade_53 : decode cX9_parade 53 = .ok (.iload_n 1, 1) := by decide +kernel
theorem dX9_parade_54 : decode cX9_parade 54 = .ok (.iload_n 2, 1) := by decide +kernel
theorem dX9_parade_55 : decode cX9_parade 55 = .ok (.invokevirtual 148, 3) := by decide +kernel
theorem dX9_parade_58 : decode cX9_parade 58 = .ok (.iload_n 3, 1) := by decide +kernel
theorem dX9_parade_59 : decode cX9_parade 59 = .ok (.invokestatic 183, 3) := by decide +kernel
theorem dX9_parade_62 : decode cX9_parade 62 = .ok (.istore 5, 2) := by decide +kernel
theorem dX9_parade_64 : decode cX9_parade 64 = .ok (.aload_n 0, 1) := by decide +kernel
theorem dX9_parade_65 : decode cX9_parade 65 = .ok (.getfield 19, 3) := by decide +kernel
theorem dX9_parade_68 : decode cX9_parade 68 = .ok (.iload 5, 2) := by decide +kernel
theorem dX9_parade_70 : decode cX9_parade 70 = .ok (.iload_n 2, 1) := by decide +kernel
theorem dX9_parade_71 : decode cX9_parade 71 = .ok (.invokevirtual 187, 3) := by decide +kernel
theorem dX9_parade_74 : decode cX9_parade 74 = .ok (.iload 5, 2) := by decide +kernel
theorem dX9_parade_76 : decode cX9_parade 76 = .ok (.ireturn, 1) := by decide +kernel
theorem dX9_mark_0 : decode cX9_mark 0 = .ok (.aload_n 0, 1) := by decide +kernel
theorem dX9_mark_1 : decode cX9_mark 1 = .ok (.getfield 19, 3) := by decide +kernel
theorem dX9_mark_4 : decode cX9_mark 4 = .ok (.iload_n 1, 1) := by decide +kernel
theorem dX9_mark_5 : decode cX9_mark 5 = .ok (.invokevirtual 124, 3) := by decide +kernel
theorem dX9_mark_8 : decode cX9_mark 8 = .ok (.iload_n 2, 1) := by decide +kernel
theorem dX9_mark_9 : decode cX9_mark 9 = .ok (.iconst 0, 1) := by decide +kernel
theorem dX9_mark_10 : decode cX9_mark 10 = .ok (.bipush 7, 2) := by decide +kernel
theorem dX9_mark_12 : decode cX9_mark 12 = .ok (.invokestatic 64, 3) := by decide +kernel
theorem dX9_mark_15 : decode cX9_mark 15 = .ok (.iconst 1, 1) := by decide +kernel
theorem dX9_mark_16 : decode cX9_mark 16 = .ok (.iconst 1, 1) := by decide +kernel
theorem dX9_mark_17 : decode cX9_mark 17 = .ok (.invokestatic 72, 3) := by decide +kernel
theorem dX9_mark_20 : decode cX9_mark 20 = .ok (.istore_n 3, 1) := by decide +kernel
theorem dX9_mark_21 : decode cX9_mark 21 = .ok (.iload_n 3, 1) := by decide +kernel
theorem dX9_mark_22 : decode cX9_mark 22 = .ok (.ifCond .eq 5, 3) := by decide +kernel
theorem dX9_mark_25 : decode cX9_mark 25 = .ok (.iload_n 3, 1) := by decide +kernel
theorem dX9_mark_26 : decode cX9_mark 26 = .ok (.ireturn, 1) := by decide +kernel
theorem dX9_mark_27 : decode cX9_mark 27 = .ok (.aload_n 0, 1) := by decide +kernel
theorem dX9_mark_28 : decode cX9_mark 28 = .ok (.getfield 29, 3) := by decide +kernel
theorem dX9_mark_31 : decode cX9_mark 31 = .ok (.aload_n 0, 1) := by decide +kernel
theorem dX9_mark_32 : decode cX9_mark 32 = .ok (.getfield 19, 3) := by decide +kernel
theorem dX9_mark_35 : decode cX9_mark 35 = .ok (.invokevirtual 155, 3) := by decide +kernel
theorem dX9_mark_38 : decode cX9_mark 38 = .ok (.aload_n 0, 1) := by decide +kernel
theorem dX9_mark_39 : decode cX9_mark 39 = .ok (.getfield 19, 3) := by decide +kernel
theorem dX9_mark_42 : decode cX9_mark 42 = .ok (.iload_n 1, 1) := by decide +kernel
theorem dX9_mark_43 : decode cX9_mark 43 = .ok (.iload_n 2, 1) := by decide +kernel
theorem dX9_mark_44 : decode cX9_mark 44 = .ok (.invokevirtual 190, 3) := by decide +kernel
theorem dX9_mark_47 : decode cX9_mark 47 = .ok (.aload_n 0, 1) := by decide +kernel
theorem dX9_mark_48 : decode cX9_mark 48 = .ok (.getfield 19, 3) := by decide +kernel
theorem dX9_mark_51 : decode cX9_mark 51 = .ok (.iload_n 1, 1) := by decide +kernel
theorem dX9_mark_52 : decode cX9_mark 52 = .ok (.invokevirtual 129, 3) := by decide +kernel
theorem dX9_mark_55 : decode cX9_mark 55 = .ok (.ireturn, 1) := by decide +kernel
theorem dX9_drift_0 : decode cX9_drift 0 = .ok (.aload_n 0, 1) := by decide +kernel
theorem dX9_drift_1 : decode cX9_drift 1 = .ok (.iload_n 1, 1) := by decide +kernel
theorem dX9_drift_2 : decode cX9_drift 2 = .ok (.invokevirtual 152, 3) := by decide +kernel
theorem dX9_drift_5 : decode cX9_drift 5 = .ok (.istore_n 2, 1) := by decide +kernel
theorem dX9_drift_6 : decode cX9_drift 6 = .ok (.iload_n 2, 1) := by decide +kernel
theorem dX9_drift_7 : decode cX9_drift 7 = .ok (.ifCond .eq 5, 3) := by decide +kernel
theorem dX9_drift_10 : decode cX9_drift 10 = .ok (.iload_n 2, 1) := by decide +kernel
theorem dX9_drift_11 : decode cX9_drift 11 = .ok (.ireturn, 1) := by decide +kernel
theorem dX9_drift_12 : decode cX9_drift 12 = .ok (.aload_n 0, 1) := by decide +kernel
theorem dX9_drift_13 : decode cX9_drift 13 = .ok (.getfield 29, 3) := by decide +kernel
theorem dX9_drift_16 : decode cX9_drift 16 = .ok (.aload_n 0, 1) := by decide +kernel
theorem dX9_drift_17 : decode cX9_drift 17 = .ok (.getfield 19, 3) := by decide +kernel
theorem dX9_drift_20 : decode cX9_drift 20 = .ok (.invokevirtual 155, 3) := by decide +kernel
theorem dX9_drift_23 : decode cX9_drift 23 = .ok (.iconst 0, 1) := by decide +kernel
theorem dX9_drift_24 : decode cX9_drift 24 = .ok (.istore_n 3, 1) := by decide +kernel
theorem dX9_drift_25 : decode cX9_drift 25 = .ok (.iload_n 3, 1) := by decide +kernel
theorem dX9_drift_26 : decode cX9_drift 26 = .ok (.iload_n 1, 1) := by decide +kernel
theorem dX9_drift_27 : decode cX9_drift 27 = .ok (.if_icmp .ge 27, 3) := by decide +kernel
theorem dX9_drift_30 : decode cX9_drift 30 = .ok (.iload_n 3, 1) := by decide +kernel
theorem dX9_drift_31 : decode cX9_drift 31 = .ok (.bipush 60, 2) := by decide +kernel
theorem dX9_drift_33 : decode cX9_drift 33 = .ok (.if_icmp .ge 21, 3) := by decide +kernel
theorem dX9_drift_36 : decode cX9_drift 36 = .ok (.aload_n 0, 1) := by decide +kernel
theorem dX9_drift_37 : decode cX9_drift 37 = .ok (.invokevirtual 193, 3) := by decide +kernel
theorem dX9_drift_40 : decode cX9_drift 40 = .ok (.aload_n 0, 1) := by decide +kernel
theorem dX9_drift_41 : decode cX9_drift 41 = .ok (.getfield 19, 3) := by decide +kernel
theorem dX9_drift_44 : decode cX9_drift 44 = .ok (.iconst 1, 1) := by decide +kernel
theorem dX9_drift_45 : decode cX9_drift 45 = .ok (.invokevirtual 158, 3) := by decide +kernel
theorem dX9_drift_48 : decode cX9_drift 48 = .ok (.iinc 3 1, 3) := by decide +kernel
theorem dX9_drift_51 : decode cX9_drift 51 = .ok (.goto (-26), 3) := by decide +kernel
theorem dX9_drift_54 : decode cX9_drift 54 = .ok (.aload_n 0, 1) := by decide +kernel
theorem dX9_drift_55 : decode cX9_drift 55 = .ok (.getfield 19, 3) := by decide +kernel
theorem dX9_drift_58 : decode cX9_drift 58 = .ok (.getfield 107, 3) := by decide +kernel
theorem dX9_drift_61 : decode cX9_drift 61 = .ok (.ireturn, 1) := by decide +kernel
theorem dX9_undo_0 : decode cX9_undo 0 = .ok (.aload_n 0, 1) := by decide +kernel
theorem dX9_undo_1 : decode cX9_undo 1 = .ok (.getfield 29, 3) := by decide +kernel
theorem dX9_undo_4 : decode cX9_undo 4 = .ok (.aload_n 0, 1) := by decide +kernel
theorem dX9_undo_5 : decode cX9_undo 5 = .ok (.getfield 19, 3) := by decide +kernel
theorem dX9_undo_8 : decode cX9_undo 8 = .ok (.invokevirtual 196, 3) := by decide +kernel
theorem dX9_undo_11 : decode cX9_undo 11 = .ok (.ifCond .eq 13, 3) := by decide +kernel
theorem dX9_undo_14 : decode cX9_undo 14 = .ok (.aload_n 0, 1) := by decide +kernel
theorem dX9_undo_15 : decode cX9_undo 15 = .ok (.getfield 29, 3) := by decide +kernel
theorem dX9_undo_18 : decode cX9_undo 18 = .ok (.getfield 122, 3) := by decide +kernel
theorem dX9_undo_21 : decode cX9_undo 21 = .ok (.goto 5, 3) := by decide +kernel
theorem dX9_undo_24 : decode cX9_undo 24 = .ok (.ldc 200, 2) := by decide +kernel
theorem dX9_undo_26 : decode cX9_undo 26 = .ok (.ireturn, 1) := by decide +kernel
theorem dX9_sure_0 : decode cX9_sure 0 = .ok (.aload_n 0, 1) := by decide +kernel
theorem dX9_sure_1 : decode cX9_sure 1 = .ok (.iload_n 1, 1) := by decide +kernel
theorem dX9_sure_2 : decode cX9_sure 2 = .ok (.iload_n 2, 1) := by decide +kernel
theorem dX9_sure_3 : decode cX9_sure 3 = .ok (.iload_n 3, 1) := by decide +kernel
theorem dX9_sure_4 : decode cX9_sure 4 = .ok (.invokevirtual 177, 3) := by decide +kernel
theorem dX9_sure_7 : decode cX9_sure 7 = .ok (.iload_n 3, 1) := by decide +kernel
theorem dX9_sure_8 : decode cX9_sure 8 = .ok (.invokestatic 180, 3) := by decide +kernel
theorem dX9_sure_11 : decode cX9_sure 11 = .ok (.ifCond .eq 15, 3) := by decide +kernel
theorem dX9_sure_14 : decode cX9_sure 14 = .ok (.iload_n 3, 1) := by decide +kernel
theorem dX9_sure_15 : decode cX9_sure 15 = .ok (.iload_n 2, 1) := by decide +kernel
theorem dX9_sure_16 : decode cX9_sure 16 = .ok (.invokestatic 201, 3) := by decide +kernel
theorem dX9_sure_19 : decode cX9_sure 19 = .ok (.ifCond .eq 7, 3) := by decide +kernel
theorem dX9_sure_22 : decode cX9_sure 22 = .ok (.iconst 1, 1) := by decide +kernel
theorem dX9_sure_23 : decode cX9_sure 23 = .ok (.goto 4, 3) := by decide +kernel
theorem dX9_sure_26 : decode cX9_sure 26 = .ok (.iconst 0, 1) := by decide +kernel
theorem dX9_sure_27 : decode cX9_sure 27 = .ok (.aload_n 0, 1) := by decide +kernel
theorem dX9_sure_28 : decode cX9_sure 28 = .ok (.getfield 19, 3) := by decide +kernel
theorem dX9_sure_31 : decode cX9_sure 31 = .ok (.iload_n 1, 1) := by decide +kernel
theorem dX9_sure_32 : decode cX9_sure 32 = .ok (.iload_n 2, 1) := by decide +kernel
theorem dX9_sure_33 : decode cX9_sure 33 = .ok (.invokevirtual 171, 3) := by decide +kernel
theorem dX9_sure_36 : decode cX9_sure 36 = .ok (.iconst 1, 1) := by decide +kernel
theorem dX9_sure_37 : decode cX9_sure 37 = .ok (.invokestatic 72, 3) := by decide +kernel
theorem dX9_sure_40 : decode cX9_sure 40 = .ok (.istore 4, 2) := by decide +kernel
theorem dX9_sure_42 : decode cX9_sure 42 = .ok (.iload 4, 2) := by decide +kernel
theorem dX9_sure_44 : decode cX9_sure 44 = .ok (.ifCond .eq 8, 3) := by decide +kernel
theorem dX9_sure_47 : decode cX9_sure 47 = .ok (.iload 4, 2) := by decide +kernel
theorem dX9_sure_49 : decode cX9_sure 49 = .ok (.goto 21, 3) := by decide +kernel
theorem dX9_sure_52 : decode cX9_sure 52 = .ok (.aload_n 0, 1) := by decide +kernel
theorem dX9_sure_53 : decode cX9_sure 53 = .ok (.getfield 19, 3) := by decide +kernel
theorem dX9_sure_56 : decode cX9_sure 56 = .ok (.aload_n 0, 1) := by decide +kernel
theorem dX9_sure_57 : decode cX9_sure 57 = .ok (.getfield 19, 3) := by decide +kernel
theorem dX9_sure_60 : decode cX9_sure 60 = .ok (.iload_n 1, 1) := by decide +kernel
theorem dX9_sure_61 : decode cX9_sure 61 = .ok (.iload_n 2, 1) := by decide +kernel
theorem dX9_sure_62 : decode cX9_sure 62 = .ok (.invokevirtual 148, 3) := by decide +kernel
theorem dX9_sure_65 : decode cX9_sure 65 = .ok (.iload_n 3, 1) := by decide +kernel
theorem dX9_sure_66 : decode cX9_sure 66 = .ok (.iload_n 2, 1) := by decide +kernel
theorem dX9_sure_67 : decode cX9_sure 67 = .ok (.invokestatic 204, 3) := by decide +kernel
theorem dX9_sure_70 : decode cX9_sure 70 = .ok (.ireturn, 1) := by decide +kernel
theorem dX9_bestRow_0 : decode cX9_bestRow 0 = .ok (.aload_n 0, 1) := by decide +kernel
theorem dX9_bestRow_1 : decode cX9_bestRow 1 = .ok (.getfield 19, 3) := by decide +kernel
theorem dX9_bestRow_4 : decode cX9_bestRow 4 = .ok (.iload_n 1, 1) := by decide +kernel
theorem dX9_bestRow_5 : decode cX9_bestRow 5 = .ok (.iload_n 2, 1) := by decide +kernel
theorem dX9_bestRow_6 : decode cX9_bestRow 6 = .ok (.invokevirtual 144, 3) := by decide +kernel
theorem dX9_bestRow_9 : decode cX9_bestRow 9 = .ok (.iload_n 3, 1) := by decide +kernel
theorem dX9_bestRow_10 : decode cX9_bestRow 10 = .ok (.invokestatic 208, 3) := by decide +kernel
theorem dX9_bestRow_13 : decode cX9_bestRow 13 = .ok (.aload_n 0, 1) := by decide +kernel
theorem dX9_bestRow_14 : decode cX9_bestRow 14 = .ok (.getfield 19, 3) := by decide +kernel
theorem dX9_bestRow_17 : decode cX9_bestRow 17 = .ok (.iload_n 1, 1) := by decide +kernel
theorem dX9_bestRow_18 : decode cX9_bestRow 18 = .ok (.iload_n 2, 1) := by decide +kernel
theorem dX9_bestRow_19 : decode cX9_bestRow 19 = .ok (.invokevirtual 171, 3) := by decide +kernel
theorem dX9_bestRow_22 : decode cX9_bestRow 22 = .ok (.iconst 1, 1) := by decide +kernel
theorem dX9_bestRow_23 : decode cX9_bestRow 23 = .ok (.invokestatic 72, 3) := by decide +kernel
theorem dX9_bestRow_26 : decode cX9_bestRow 26 = .ok (.istore 4, 2) := by decide +kernel
theorem dX9_bestRow_28 : decode cX9_bestRow 28 = .ok (.iload 4, 2) := by decide +kernel
theorem dX9_bestRow_30 : decode cX9_bestRow 30 = .ok (.ifCond .eq 8, 3) := by decide +kernel
theorem dX9_bestRow_33 : decode cX9_bestRow 33 = .ok (.iload 4, 2) := by decide +kernel
theorem dX9_bestRow_35 : decode cX9_bestRow 35 = .ok (.goto 13, 3) := by decide +kernel
theorem dX9_bestRow_38 : decode cX9_bestRow 38 = .ok (.aload_n 0, 1) := by decide +kernel
theorem dX9_bestRow_39 : decode cX9_bestRow 39 = .ok (.getfield 19, 3) := by decide +kernel
theorem dX9_bestRow_42 : decode cX9_bestRow 42 = .ok (.iload_n 1, 1) := by decide +kernel
theorem dX9_bestRow_43 : decode cX9_bestRow 43 = .ok (.iload_n 2, 1) := by decide +kernel
theorem dX9_bestRow_44 : decode cX9_bestRow 44 = .ok (.iload_n 3, 1) := by decide +kernel
theorem dX9_bestRow_45 : decode cX9_bestRow 45 = .ok (.invokestatic 211, 3) := by decide +kernel
theorem dX9_bestRow_48 : decode cX9_bestRow 48 = .ok (.ireturn, 1) := by decide +kernel
theorem dX9_odds_0 : decode cX9_odds 0 = .ok (.aload_n 0, 1) := by decide +kernel
theorem dX9_odds_1 : decode cX9_odds 1 = .ok (.iload_n 1, 1) := by decide +kernel
theorem dX9_odds_2 : decode cX9_odds 2 = .ok (.iload_n 2, 1) := by decide +kernel
theorem dX9_odds_3 : decode cX9_odds 3 = .ok (.iload_n 3, 1) := by decide +kernel
theorem dX9_odds_4 : decode cX9_odds 4 = .ok (.invokevirtual 177, 3) := by decide +kernel
theorem dX9_odds_7 : decode cX9_odds 7 = .ok (.ifCond .eq 19, 3) := by decide +kernel
theorem dX9_odds_10 : decode cX9_odds 10 = .ok (.aload_n 0, 1) := by decide +kernel
theorem dX9_odds_11 : decode cX9_odds 11 = .ok (.getfield 19, 3) := by decide +kernel
theorem dX9_odds_14 : decode cX9_odds 14 = .ok (.iload 4, 2) := by decide +kernel
theorem dX9_odds_16 : decode cX9_odds 16 = .ok (.invokevirtual 124, 3) := by decide +kernel
theorem dX9_odds_19 : decode cX9_odds 19 = .ok (.ifCond .eq 7, 3) := by decide +kernel
theorem dX9_odds_22 : decode cX9_odds 22 = .ok (.iconst 1, 1) := by decide +kernel
theorem dX9_odds_23 : decode cX9_odds 23 = .ok (.goto 4, 3) := by decide +kernel
theorem dX9_odds_26 : decode cX9_odds 26 = .ok (.iconst 0, 1) := by decide +kernel
theorem dX9_odds_27 : decode cX9_odds 27 = .ok (.iload_n 3, 1) := by decide +kernel
theorem dX9_odds_28 : decode cX9_odds 28 = .ok (.invokestatic 180, 3) := by decide +kernel
theorem dX9_odds_31 : decode cX9_odds 31 = .ok (.aload_n 0, 1) := by decide +kernel
theorem dX9_odds_32 : decode cX9_odds 32 = .ok (.getfield 19, 3) := by decide +kernel
theorem dX9_odds_35 : decode cX9_odds 35 = .ok (.iload_n 1, 1) := by decide +kernel
theorem dX9_odds_36 : decode cX9_odds 36 = .ok (.iload_n 2, 1) := by decide +kernel
theorem dX9_odds_37 : decode cX9_odds 37 = .ok (.invokevirtual 171, 3) := by decide +kernel
theorem dX9_odds_40 : decode cX9_odds 40 = .ok (.iconst 1, 1) := by decide +kernel
theorem dX9_odds_41 : decode cX9_odds 41 = .ok (.invokestatic 72, 3) := by decide +kernel
theorem dX9_odds_44 : decode cX9_odds 44 = .ok (.istore 5, 2) := by decide +kernel
theorem dX9_odds_46 : decode cX9_odds 46 = .ok (.iload 5, 2) := by decide +kernel
theorem dX9_odds_48 : decode cX9_odds 48 = .ok (.ifCond .eq 8, 3) := by decide +kernel
theorem dX9_odds_51 : decode cX9_odds 51 = .ok (.iload 5, 2) := by decide +kernel
theorem dX9_odds_53 : decode cX9_odds 53 = .ok (.goto 22, 3) := by decide +kernel
theorem dX9_odds_56 : decode cX9_odds 56 = .ok (.aload_n 0, 1) := by decide +kernel
theorem dX9_odds_57 : decode cX9_odds 57 = .ok (.getfield 19, 3) := by decide +kernel
theorem dX9_odds_60 : decode cX9_odds 60 = .ok (.aload_n 0, 1) := by decide +kernel
theorem dX9_odds_61 : decode cX9_odds 61 = .ok (.getfield 19, 3) := by decide +kernel
theorem dX9_odds_64 : decode cX9_odds 64 = .ok (.iload_n 1, 1) := by decide +kernel
theorem dX9_odds_65 : decode cX9_odds 65 = .ok (.iload_n 2, 1) := by decide +kernel
theorem dX9_odds_66 : decode cX9_odds 66 = .ok (.invokevirtual 148, 3) := by decide +kernel
theorem dX9_odds_69 : decode cX9_odds 69 = .ok (.iload_n 3, 1) := by decide +kernel
theorem dX9_odds_70 : decode cX9_odds 70 = .ok (.iload 4, 2) := by decide +kernel
theorem dX9_odds_72 : decode cX9_odds 72 = .ok (.invokestatic 216, 3) := by decide +kernel
theorem dX9_odds_75 : decode cX9_odds 75 = .ok (.ireturn, 1) := by decide +kernel
theorem dX9_ask_0 : decode cX9_ask 0 = .ok (.aload_n 0, 1) := by decide +kernel
theorem dX9_ask_1 : decode cX9_ask 1 = .ok (.getfield 19, 3) := by decide +kernel
theorem dX9_ask_4 : decode cX9_ask 4 = .ok (.iload_n 1, 1) := by decide +kernel
theorem dX9_ask_5 : decode cX9_ask 5 = .ok (.invokevirtual 124, 3) := by decide +kernel
theorem dX9_ask_8 : decode cX9_ask 8 = .ok (.ifCond .eq 18, 3) := by decide +kernel
theorem dX9_ask_11 : decode cX9_ask 11 = .ok (.aload_n 0, 1) := by decide +kernel
theorem dX9_ask_12 : decode cX9_ask 12 = .ok (.getfield 19, 3) := by decide +kernel
theorem dX9_ask_15 : decode cX9_ask 15 = .ok (.iload_n 2, 1) := by decide +kernel
theorem dX9_ask_16 : decode cX9_ask 16 = .ok (.invokevirtual 219, 3) := by decide +kernel
theorem dX9_ask_19 : decode cX9_ask 19 = .ok (.ifCond .eq 7, 3) := by decide +kernel
theorem dX9_ask_22 : decode cX9_ask 22 = .ok (.iconst 1, 1) := by decide +kernel
theorem dX9_ask_23 : decode cX9_ask 23 = .ok (.goto 4, 3) := by decide +kernel
theorem dX9_ask_26 : decode cX9_ask 26 = .ok (.iconst 0, 1) := by decide +kernel
theorem dX9_ask_27 : decode cX9_ask 27 = .ok (.iload_n 2, 1) := by decide +kernel
theorem dX9_ask_28 : decode cX9_ask 28 = .ok (.invokestatic 180, 3) := by decide +kernel
theorem dX9_ask_31 : decode cX9_ask 31 = .ok (.ifCond .eq 15, 3) := by decide +kernel
theorem dX9_ask_34 : decode cX9_ask 34 = .ok (.iload_n 2, 1) := by decide +kernel
theorem dX9_ask_35 : decode cX9_ask 35 = .ok (.iload_n 1, 1) := by decide +kernel
theorem dX9_ask_36 : decode cX9_ask 36 = .ok (.invokestatic 201, 3) := by decide +kernel
theorem dX9_ask_39 : decode cX9_ask 39 = .ok (.ifCond .eq 7, 3) := by decide +kernel
theorem dX9_ask_42 : decode cX9_ask 42 = .ok (.iconst 1, 1) := by decide +kernel
theorem dX9_ask_43 : decode cX9_ask 43 = .ok (.goto 4, 3) := by decide +kernel
theorem dX9_ask_46 : decode cX9_ask 46 = .ok (.iconst 0, 1) := by decide +kernel
theorem dX9_ask_47 : decode cX9_ask 47 = .ok (.iconst 1, 1) := by decide +kernel
theorem dX9_ask_48 : decode cX9_ask 48 = .ok (.iconst 1, 1) := by decide +kernel
theorem dX9_ask_49 : decode cX9_ask 49 = .ok (.invokestatic 72, 3) := by decide +kernel
theorem dX9_ask_52 : decode cX9_ask 52 = .ok (.istore_n 3, 1) := by decide +kernel
theorem dX9_ask_53 : decode cX9_ask 53 = .ok (.iload_n 3, 1) := by decide +kernel
theorem dX9_ask_54 : decode cX9_ask 54 = .ok (.ifCond .eq 7, 3) := by decide +kernel
theorem dX9_ask_57 : decode cX9_ask 57 = .ok (.iload_n 3, 1) := by decide +kernel
theorem dX9_ask_58 : decode cX9_ask 58 = .ok (.goto 12, 3) := by decide +kernel
theorem dX9_ask_61 : decode cX9_ask 61 = .ok (.aload_n 0, 1) := by decide +kernel
theorem dX9_ask_62 : decode cX9_ask 62 = .ok (.getfield 19, 3) := by decide +kernel
theorem dX9_ask_65 : decode cX9_ask 65 = .ok (.iload_n 1, 1) := by decide +kernel
theorem dX9_ask_66 : decode cX9_ask 66 = .ok (.iload_n 2, 1) := by decide +kernel
theorem dX9_ask_67 : decode cX9_ask 67 = .ok (.invokestatic 222, 3) := by decide +kernel
theorem dX9_ask_70 : decode cX9_ask 70 = .ok (.ireturn, 1) := by decide +kernel
theorem dX9_ring_0 : decode cX9_ring 0 = .ok (.aload_n 0, 1) := by decide +kernel
theorem dX9_ring_1 : decode cX9_ring 1 = .ok (.getfield 19, 3) := by decide +kernel
theorem dX9_ring_4 : decode cX9_ring 4 = .ok (.iload_n 1, 1) := by decide +kernel
theorem dX9_ring_5 : decode cX9_ring 5 = .ok (.invokevirtual 124, 3) := by decide +kernel
theorem dX9_ring_8 : decode cX9_ring 8 = .ok (.ifCond .eq 14, 3) := by decide +kernel
theorem dX9_ring_11 : decode cX9_ring 11 = .ok (.aload_n 0, 1) := by decide +kernel
theorem dX9_ring_12 : decode cX9_ring 12 = .ok (.getfield 19, 3) := by decide +kernel
theorem dX9_ring_15 : decode cX9_ring 15 = .ok (.iload_n 1, 1) := by decide +kernel
theorem dX9_ring_16 : decode cX9_ring 16 = .ok (.invokevirtual 225, 3) := by decide +kernel
theorem dX9_ring_19 : decode cX9_ring 19 = .ok (.goto 5, 3) := by decide +kernel
theorem dX9_ring_22 : decode cX9_ring 22 = .ok (.ldc 128, 2) := by decide +kernel
theorem dX9_ring_24 : decode cX9_ring 24 = .ok (.ireturn, 1) := by decide +kernel
theorem dX9_rings_0 : decode cX9_rings 0 = .ok (.iload_n 1, 1) := by decide +kernel
theorem dX9_rings_1 : decode cX9_rings 1 = .ok (.tableswitch 51 0 2 #[27, 35, 43], 27) := by decide +kernel
theorem dX9_rings_28 : decode cX9_rings 28 = .ok (.aload_n 0, 1) := by decide +kernel
theorem dX9_rings_29 : decode cX9_rings 29 = .ok (.getfield 19, 3) := by decide +kernel
theorem dX9_rings_32 : decode cX9_rings 32 = .ok (.invokevirtual 228, 3) := by decide +kernel
theorem dX9_rings_35 : decode cX9_rings 35 = .ok (.ireturn, 1) := by decide +kernel
theorem dX9_rings_36 : decode cX9_rings 36 = .ok (.aload_n 0, 1) := by decide +kernel
theorem dX9_rings_37 : decode cX9_rings 37 = .ok (.getfield 19, 3) := by decide +kernel
theorem dX9_rings_40 : decode cX9_rings 40 = .ok (.invokevirtual 231, 3) := by decide +kernel
theorem dX9_rings_43 : decode cX9_rings 43 = .ok (.ireturn, 1) := by decide +kernel
theorem dX9_rings_44 : decode cX9_rings 44 = .ok (.aload_n 0, 1) := by decide +kernel
theorem dX9_rings_45 : decode cX9_rings 45 = .ok (.getfield 19, 3) := by decide +kernel
theorem dX9_rings_48 : decode cX9_rings 48 = .ok (.invokevirtual 234, 3) := by decide +kernel
theorem dX9_rings_51 : decode cX9_rings 51 = .ok (.ireturn, 1) := by decide +kernel
theorem dX9_rings_52 : decode cX9_rings 52 = .ok (.ldc 123, 2) := by decide +kernel
theorem dX9_rings_54 : decode cX9_rings 54 = .ok (.ireturn, 1) := by decide +kernel
theorem dX9_mask_0 : decode cX9_mask 0 = .ok (.iload_n 3, 1) := by decide +kernel
theorem dX9_mask_1 : decode cX9_mask 1 = .ok (.invokestatic 180, 3) := by decide +kernel
theorem dX9_mask_4 : decode cX9_mask 4 = .ok (.ifCond .eq 26, 3) := by decide +kernel
theorem dX9_mask_7 : decode cX9_mask 7 = .ok (.iload_n 3, 1) := by decide +kernel
theorem dX9_mask_8 : decode cX9_mask 8 = .ok (.iload_n 2, 1) := by decide +kernel
theorem dX9_mask_9 : decode cX9_mask 9 = .ok (.invokestatic 201, 3) := by decide +kernel
theorem dX9_mask_12 : decode cX9_mask 12 = .ok (.ifCond .eq 18, 3) := by decide +kernel
theorem dX9_mask_15 : decode cX9_mask 15 = .ok (.iload 4, 2) := by decide +kernel
theorem dX9_mask_17 : decode cX9_mask 17 = .ok (.iconst 1, 1) := by decide +kernel
theorem dX9_mask_18 : decode cX9_mask 18 = .ok (.bipush 8, 2) := by decide +kernel
theorem dX9_mask_20 : decode cX9_mask 20 = .ok (.invokestatic 64, 3) := by decide +kernel
theorem dX9_mask_23 : decode cX9_mask 23 = .ok (.ifCond .eq 7, 3) := by decide +kernel
theorem dX9_mask_26 : decode cX9_mask 26 = .ok (.iconst 1, 1) := by decide +kernel
theorem dX9_mask_27 : decode cX9_mask 27 = .ok (.goto 4, 3) := by decide +kernel
theorem dX9_mask_30 : decode cX9_mask 30 = .ok (.iconst 0, 1) := by decide +kernel
theorem dX9_mask_31 : decode cX9_mask 31 = .ok (.istore 5, 2) := by decide +kernel
theorem dX9_mask_33 : decode cX9_mask 33 = .ok (.aload_n 0, 1) := by decide +kernel
theorem dX9_mask_34 : decode cX9_mask 34 = .ok (.iload_n 1, 1) := by decide +kernel
theorem dX9_mask_35 : decode cX9_mask 35 = .ok (.iload_n 2, 1) := by decide +kernel
theorem dX9_mask_36 : decode cX9_mask 36 = .ok (.iload_n 3, 1) := by decide +kernel
theorem dX9_mask_37 : decode cX9_mask 37 = .ok (.invokevirtual 177, 3) := by decide +kernel
theorem dX9_mask_40 : decode cX9_mask 40 = .ok (.iload 5, 2) := by decide +kernel
theorem dX9_mask_42 : decode cX9_mask 42 = .ok (.aload_n 0, 1) := by decide +kernel
theorem dX9_mask_43 : decode cX9_mask 43 = .ok (.getfield 19, 3) := by decide +kernel
theorem dX9_mask_46 : decode cX9_mask 46 = .ok (.iload_n 1, 1) := by decide +kernel
theorem dX9_mask_47 : decode cX9_mask 47 = .ok (.iload_n 2, 1) := by decide +kernel
theorem dX9_mask_48 : decode cX9_mask 48 = .ok (.invokevirtual 171, 3) := by decide +kernel
theorem dX9_mask_51 : decode cX9_mask 51 = .ok (.iconst 1, 1) := by decide +kernel
theorem dX9_mask_52 : decode cX9_mask 52 = .ok (.invokestatic 72, 3) := by decide +kernel
theorem dX9_mask_55 : decode cX9_mask 55 = .ok (.istore 6, 2) := by decide +kernel
theorem dX9_mask_57 : decode cX9_mask 57 = .ok (.iload 6, 2) := by decide +kernel
theorem dX9_mask_59 : decode cX9_mask 59 = .ok (.ifCond .eq 8, 3) := by decide +kernel
theorem dX9_mask_62 : decode cX9_mask 62 = .ok (.iload 6, 2) := by decide +kernel
theorem dX9_mask_64 : decode cX9_mask 64 = .ok (.goto 23, 3) := by decide +kernel
theorem dX9_mask_67 : decode cX9_mask 67 = .ok (.aload_n 0, 1) := by decide +kernel
theorem dX9_mask_68 : decode cX9_mask 68 = .ok (.getfield 19, 3) := by decide +kernel
theorem dX9_mask_71 : decode cX9_mask 71 = .ok (.aload_n 0, 1) := by decide +kernel
theorem dX9_mask_72 : decode cX9_mask 72 = .ok (.getfield 19, 3) := by decide +kernel
theorem dX9_mask_75 : decode cX9_mask 75 = .ok (.iload_n 1, 1) := by decide +kernel
theorem dX9_mask_76 : decode cX9_mask 76 = .ok (.iload_n 2, 1) := by decide +kernel
theorem dX9_mask_77 : decode cX9_mask 77 = .ok (.invokevirtual 148, 3) := by decide +kernel
theorem dX9_mask_80 : decode cX9_mask 80 = .ok (.iload_n 3, 1) := by decide +kernel
theorem dX9_mask_81 : decode cX9_mask 81 = .ok (.iload_n 2, 1) := by decide +kernel
theorem dX9_mask_82 : decode cX9_mask 82 = .ok (.iload 4, 2) := by decide +kernel
theorem dX9_mask_84 : decode cX9_mask 84 = .ok (.invokestatic 237, 3) := by decide +kernel
theorem dX9_mask_87 : decode cX9_mask 87 = .ok (.ireturn, 1) := by decide +kernel
theorem dX9_spoil_0 : decode cX9_spoil 0 = .ok (.aload_n 0, 1) := by decide +kernel
theorem dX9_spoil_1 : decode cX9_spoil 1 = .ok (.iload_n 1, 1) := by decide +kernel
theorem dX9_spoil_2 : decode cX9_spoil 2 = .ok (.iload_n 2, 1) := by decide +kernel
theorem dX9_spoil_3 : decode cX9_spoil 3 = .ok (.iload_n 3, 1) := by decide +kernel
theorem dX9_spoil_4 : decode cX9_spoil 4 = .ok (.invokevirtual 177, 3) := by decide +kernel
theorem dX9_spoil_7 : decode cX9_spoil 7 = .ok (.ifCond .eq 20, 3) := by decide +kernel
theorem dX9_spoil_10 : decode cX9_spoil 10 = .ok (.aload_n 0, 1) := by decide +kernel
theorem dX9_spoil_11 : decode cX9_spoil 11 = .ok (.getfield 19, 3) := by decide +kernel
theorem dX9_spoil_14 : decode cX9_spoil 14 = .ok (.iload 4, 2) := by decide +kernel
theorem dX9_spoil_16 : decode cX9_spoil 16 = .ok (.iload_n 2, 1) := by decide +kernel
theorem dX9_spoil_17 : decode cX9_spoil 17 = .ok (.invokevirtual 144, 3) := by decide +kernel
theorem dX9_spoil_20 : decode cX9_spoil 20 = .ok (.ifCond .eq 7, 3) := by decide +kernel
theorem dX9_spoil_23 : decode cX9_spoil 23 = .ok (.iconst 1, 1) := by decide +kernel
theorem dX9_spoil_24 : decode cX9_spoil 24 = .ok (.goto 4, 3) := by decide +kernel
theorem dX9_spoil_27 : decode cX9_spoil 27 = .ok (.iconst 0, 1) := by decide +kernel
theorem dX9_spoil_28 : decode cX9_spoil 28 = .ok (.istore 5, 2) := by decide +kernel
theorem dX9_spoil_30 : decode cX9_spoil 30 = .ok (.iload 5, 2) := by decide +kernel
theorem dX9_spoil_32 : decode cX9_spoil 32 = .ok (.iload_n 3, 1) := by decide +kernel
theorem dX9_spoil_33 : decode cX9_spoil 33 = .ok (.invokestatic 180, 3) := by decide +kernel
theorem dX9_spoil_36 : decode cX9_spoil 36 = .ok (.ifCond .eq 16, 3) := by decide +kernel
theorem dX9_spoil_39 : decode cX9_spoil 39 = .ok (.iload_n 3, 1) := by decide +kernel
theorem dX9_spoil_40 : decode cX9_spoil 40 = .ok (.iload 4, 2) := by decide +kernel
theorem dX9_spoil_42 : decode cX9_spoil 42 = .ok (.invokestatic 201, 3) := by decide +kernel
theorem dX9_spoil_45 : decode cX9_spoil 45 = .ok (.ifCond .eq 7, 3) := by decide +kernel
theorem dX9_spoil_48 : decode cX9_spoil 48 = .ok (.iconst 1, 1) := by decide +kernel
theorem dX9_spoil_49 : decode cX9_spoil 49 = .ok (.goto 4, 3) := by decide +kernel
theorem dX9_spoil_52 : decode cX9_spoil 52 = .ok (.iconst 0, 1) := by decide +kernel
theorem dX9_spoil_53 : decode cX9_spoil 53 = .ok (.aload_n 0, 1) := by decide +kernel
theorem dX9_spoil_54 : decode cX9_spoil 54 = .ok (.getfield 19, 3) := by decide +kernel
theorem dX9_spoil_57 : decode cX9_spoil 57 = .ok (.iload_n 1, 1) := by decide +kernel
theorem dX9_spoil_58 : decode cX9_spoil 58 = .ok (.iload_n 2, 1) := by decide +kernel
theorem dX9_spoil_59 : decode cX9_spoil 59 = .ok (.invokevirtual 171, 3) := by decide +kernel
theorem dX9_spoil_62 : decode cX9_spoil 62 = .ok (.iconst 1, 1) := by decide +kernel
theorem dX9_spoil_63 : decode cX9_spoil 63 = .ok (.invokestatic 72, 3) := by decide +kernel
theorem dX9_spoil_66 : decode cX9_spoil 66 = .ok (.istore 6, 2) := by decide +kernel
theorem dX9_spoil_68 : decode cX9_spoil 68 = .ok (.iload 6, 2) := by decide +kernel
theorem dX9_spoil_70 : decode cX9_spoil 70 = .ok (.ifCond .eq 8, 3) := by decide +kernel
theorem dX9_spoil_73 : decode cX9_spoil 73 = .ok (.iload 6, 2) := by decide +kernel
theorem dX9_spoil_75 : decode cX9_spoil 75 = .ok (.goto 23, 3) := by decide +kernel
theorem dX9_spoil_78 : decode cX9_spoil 78 = .ok (.aload_n 0, 1) := by decide +kernel
theorem dX9_spoil_79 : decode cX9_spoil 79 = .ok (.getfield 19, 3) := by decide +kernel
theorem dX9_spoil_82 : decode cX9_spoil 82 = .ok (.aload_n 0, 1) := by decide +kernel
theorem dX9_spoil_83 : decode cX9_spoil 83 = .ok (.getfield 19, 3) := by decide +kernel
theorem dX9_spoil_86 : decode cX9_spoil 86 = .ok (.iload_n 1, 1) := by decide +kernel
theorem dX9_spoil_87 : decode cX9_spoil 87 = .ok (.iload_n 2, 1) := by decide +kernel
theorem dX9_spoil_88 : decode cX9_spoil 88 = .ok (.invokevirtual 148, 3) := by decide +kernel
theorem dX9_spoil_91 : decode cX9_spoil 91 = .ok (.iload_n 3, 1) := by decide +kernel
theorem dX9_spoil_92 : decode cX9_spoil 92 = .ok (.iload 4, 2) := by decide +kernel
theorem dX9_spoil_94 : decode cX9_spoil 94 = .ok (.iconst 1, 1) := by decide +kernel
theorem dX9_spoil_95 : decode cX9_spoil 95 = .ok (.invokestatic 237, 3) := by decide +kernel
theorem dX9_spoil_98 : decode cX9_spoil 98 = .ok (.ireturn, 1) := by decide +kernel
theorem dX9_impostor_0 : decode cX9_impostor 0 = .ok (.aload_n 0, 1) := by decide +kernel
theorem dX9_impostor_1 : decode cX9_impostor 1 = .ok (.getfield 19, 3) := by decide +kernel
theorem dX9_impostor_4 : decode cX9_impostor 4 = .ok (.iload_n 1, 1) := by decide +kernel
theorem dX9_impostor_5 : decode cX9_impostor 5 = .ok (.iload_n 2, 1) := by decide +kernel
theorem dX9_impostor_6 : decode cX9_impostor 6 = .ok (.invokevirtual 144, 3) := by decide +kernel
theorem dX9_impostor_9 : decode cX9_impostor 9 = .ok (.ifCond .eq 19, 3) := by decide +kernel
theorem dX9_impostor_12 : decode cX9_impostor 12 = .ok (.aload_n 0, 1) := by decide +kernel
theorem dX9_impostor_13 : decode cX9_impostor 13 = .ok (.getfield 19, 3) := by decide +kernel
theorem dX9_impostor_16 : decode cX9_impostor 16 = .ok (.iload_n 1, 1) := by decide +kernel
theorem dX9_impostor_17 : decode cX9_impostor 17 = .ok (.iload_n 3, 1) := by decide +kernel
theorem dX9_impostor_18 : decode cX9_impostor 18 = .ok (.invokevirtual 144, 3) := by decide +kernel
theorem dX9_impostor_21 : decode cX9_impostor 21 = .ok (.ifCond .eq 7, 3) := by decide +kernel
theorem dX9_impostor_24 : decode cX9_impostor 24 = .ok (.iconst 1, 1) := by decide +kernel
theorem dX9_impostor_25 : decode cX9_impostor 25 = .ok (.goto 4, 3) := by decide +kernel
theorem dX9_impostor_28 : decode cX9_impostor 28 = .ok (.iconst 0, 1) := by decide +kernel
theorem dX9_impostor_29 : decode cX9_impostor 29 = .ok (.istore 6, 2) := by decide +kernel
theorem dX9_impostor_31 : decode cX9_impostor 31 = .ok (.iload 6, 2) := by decide +kernel
theorem dX9_impostor_33 : decode cX9_impostor 33 = .ok (.iload 4, 2) := by decide +kernel
theorem dX9_impostor_35 : decode cX9_impostor 35 = .ok (.invokestatic 208, 3) := by decide +kernel
theorem dX9_impostor_38 : decode cX9_impostor 38 = .ok (.ifCond .eq 17, 3) := by decide +kernel
theorem dX9_impostor_41 : decode cX9_impostor 41 = .ok (.iload 5, 2) := by decide +kernel
theorem dX9_impostor_43 : decode cX9_impostor 43 = .ok (.iconst 0, 1) := by decide +kernel
theorem dX9_impostor_44 : decode cX9_impostor 44 = .ok (.iconst 1, 1) := by decide +kernel
theorem dX9_impostor_45 : decode cX9_impostor 45 = .ok (.invokestatic 64, 3) := by decide +kernel
theorem dX9_impostor_48 : decode cX9_impostor 48 = .ok (.ifCond .eq 7, 3) := by decide +kernel
theorem dX9_impostor_51 : decode cX9_impostor 51 = .ok (.iconst 1, 1) := by decide +kernel
theorem dX9_impostor_52 : decode cX9_impostor 52 = .ok (.goto 4, 3) := by decide +kernel
theorem dX9_impostor_55 : decode cX9_impostor 55 = .ok (.iconst 0, 1) := by decide +kernel
theorem dX9_impostor_56 : decode cX9_impostor 56 = .ok (.aload_n 0, 1) := by decide +kernel
theorem dX9_impostor_57 : decode cX9_impostor 57 = .ok (.getfield 19, 3) := by decide +kernel
theorem dX9_impostor_60 : decode cX9_impostor 60 = .ok (.iload_n 1, 1) := by decide +kernel
theorem dX9_impostor_61 : decode cX9_impostor 61 = .ok (.iload_n 2, 1) := by decide +kernel
theorem dX9_impostor_62 : decode cX9_impostor 62 = .ok (.invokevirtual 171, 3) := by decide +kernel
theorem dX9_impostor_65 : decode cX9_impostor 65 = .ok (.iconst 1, 1) := by decide +kernel
theorem dX9_impostor_66 : decode cX9_impostor 66 = .ok (.invokestatic 72, 3) := by decide +kernel
theorem dX9_impostor_69 : decode cX9_impostor 69 = .ok (.istore 7, 2) := by decide +kernel
theorem dX9_impostor_71 : decode cX9_impostor 71 = .ok (.iload 7, 2) := by decide +kernel
theorem dX9_impostor_73 : decode cX9_impostor 73 = .ok (.ifCond .eq 6, 3) := by decide +kernel
theorem dX9_impostor_76 : decode cX9_impostor 76 = .ok (.iload 7, 2) := by decide +kernel
theorem dX9_impostor_78 : decode cX9_impostor 78 = .ok (.ireturn, 1) := by decide +kernel
theorem dX9_impostor_79 : decode cX9_impostor 79 = .ok (.aload_n 0, 1) := by decide +kernel
theorem dX9_impostor_80 : decode cX9_impostor 80 = .ok (.getfield 19, 3) := by decide +kernel
theorem dX9_impostor_83 : decode cX9_impostor 83 = .ok (.iload_n 1, 1) := by decide +kernel
theorem dX9_impostor_84 : decode cX9_impostor 84 = .ok (.iload_n 2, 1) := by decide +kernel
theorem dX9_impostor_85 : decode cX9_impostor 85 = .ok (.invokevirtual 148, 3) := by decide +kernel
theorem dX9_impostor_88 : decode cX9_impostor 88 = .ok (.istore 8, 2) := by decide +kernel
theorem dX9_impostor_90 : decode cX9_impostor 90 = .ok (.iload 5, 2) := by decide +kernel
theorem dX9_impostor_92 : decode cX9_impostor 92 = .ok (.ifCond .ne 19, 3) := by decide +kernel
theorem dX9_impostor_95 : decode cX9_impostor 95 = .ok (.aload_n 0, 1) := by decide +kernel
theorem dX9_impostor_96 : decode cX9_impostor 96 = .ok (.getfield 19, 3) := by decide +kernel
theorem dX9_impostor_99 : decode cX9_impostor 99 = .ok (.iload 8, 2) := by decide +kernel
theorem dX9_impostor_101 : decode cX9_impostor 101 = .ok (.iload_n 1, 1) := by decide +kernel
theorem dX9_impostor_102 : decode cX9_impostor 102 = .ok (.iload_n 3, 1) := by decide +kernel
theorem dX9_impostor_103 : decode cX9_impostor 103 = .ok (.iload 4, 2) := by decide +kernel
theorem dX9_impostor_105 : decode cX9_impostor 105 = .ok (.invokestatic 241, 3) := by decide +kernel
theorem dX9_impostor_108 : decode cX9_impostor 108 = .ok (.goto 16, 3) := by decide +kernel
theorem dX9_impostor_111 : decode cX9_impostor 111 = .ok (.aload_n 0, 1) := by decide +kernel
theorem dX9_impostor_112 : decode cX9_impostor 112 = .ok (.getfield 19, 3) := by decide +kernel
theorem dX9_impostor_115 : decode cX9_impostor 115 = .ok (.iload 8, 2) := by decide +kernel
theorem dX9_impostor_117 : decode cX9_impostor 117 = .ok (.iload_n 1, 1) := by decide +kernel
theorem dX9_impostor_118 : decode cX9_impostor 118 = .ok (.iload_n 3, 1) := by decide +kernel
theorem dX9_impostor_119 : decode cX9_impostor 119 = .ok (.iload 4, 2) := by decide +kernel
theorem dX9_impostor_121 : decode cX9_impostor 121 = .ok (.invokestatic 244, 3) := by decide +kernel
theorem dX9_impostor_124 : decode cX9_impostor 124 = .ok (.ireturn, 1) := by decide +kernel
theorem dX9_lost_0 : decode cX9_lost 0 = .ok (.aload_n 0, 1) := by decide +kernel
theorem dX9_lost_1 : decode cX9_lost 1 = .ok (.getfield 19, 3) := by decide +kernel
theorem dX9_lost_4 : decode cX9_lost 4 = .ok (.iload_n 1, 1) := by decide +kernel
theorem dX9_lost_5 : decode cX9_lost 5 = .ok (.invokevirtual 247, 3) := by decide +kernel
theorem dX9_lost_8 : decode cX9_lost 8 = .ok (.ireturn, 1) := by decide +kernel
theorem dX9_alike_0 : decode cX9_alike 0 = .ok (.iload_n 1, 1) := by decide +kernel
theorem dX9_alike_1 : decode cX9_alike 1 = .ok (.iconst 0, 1) := by decide +kernel
theorem dX9_alike_2 : decode cX9_alike 2 = .ok (.bipush 60, 2) := by decide +kernel
theorem dX9_alike_4 : decode cX9_alike 4 = .ok (.invokestatic 64, 3) := by decide +kernel
theorem dX9_alike_7 : decode cX9_alike 7 = .ok (.ifCond .ne 6, 3) := by decide +kernel
theorem dX9_alike_10 : decode cX9_alike 10 = .ok (.ldc 123, 2) := by decide +kernel
theorem dX9_alike_12 : decode cX9_alike 12 = .ok (.ireturn, 1) := by decide +kernel
theorem dX9_alike_13 : decode cX9_alike 13 = .ok (.aload_n 0, 1) := by decide +kernel
theorem dX9_alike_14 : decode cX9_alike 14 = .ok (.getfield 23, 3) := by decide +kernel
theorem dX9_alike_17 : decode cX9_alike 17 = .ok (.aload_n 0, 1) := by decide +kernel
theorem dX9_alike_18 : decode cX9_alike 18 = .ok (.getfield 19, 3) := by decide +kernel
theorem dX9_alike_21 : decode cX9_alike 21 = .ok (.invokevirtual 87, 3) := by decide +kernel
theorem dX9_alike_24 : decode cX9_alike 24 = .ok (.aload_n 0, 1) := by decide +kernel
theorem dX9_alike_25 : decode cX9_alike 25 = .ok (.getfield 23, 3) := by decide +kernel
theorem dX9_alike_28 : decode cX9_alike 28 = .ok (.iload_n 1, 1) := by decide +kernel
theorem dX9_alike_29 : decode cX9_alike 29 = .ok (.invokevirtual 158, 3) := by decide +kernel
theorem dX9_alike_32 : decode cX9_alike 32 = .ok (.aload_n 0, 1) := by decide +kernel
theorem dX9_alike_33 : decode cX9_alike 33 = .ok (.getfield 23, 3) := by decide +kernel
theorem dX9_alike_36 : decode cX9_alike 36 = .ok (.invokevirtual 250, 3) := by decide +kernel
theorem dX9_alike_39 : decode cX9_alike 39 = .ok (.ireturn, 1) := by decide +kernel
theorem dX9_see_0 : decode cX9_see 0 = .ok (.aload_n 0, 1) := by decide +kernel
theorem dX9_see_1 : decode cX9_see 1 = .ok (.iload_n 1, 1) := by decide +kernel
theorem dX9_see_2 : decode cX9_see 2 = .ok (.iload_n 2, 1) := by decide +kernel
theorem dX9_see_3 : decode cX9_see 3 = .ok (.iload_n 3, 1) := by decide +kernel
theorem dX9_see_4 : decode cX9_see 4 = .ok (.invokevirtual 177, 3) := by decide +kernel
theorem dX9_see_7 : decode cX9_see 7 = .ok (.ifCond .eq 19, 3) := by decide +kernel
theorem dX9_see_10 : decode cX9_see 10 = .ok (.aload_n 0, 1) := by decide +kernel
theorem dX9_see_11 : decode cX9_see 11 = .ok (.getfield 19, 3) := by decide +kernel
theorem dX9_see_14 : decode cX9_see 14 = .ok (.iload 4, 2) := by decide +kernel
theorem dX9_see_16 : decode cX9_see 16 = .ok (.invokevirtual 124, 3) := by decide +kernel
theorem dX9_see_19 : decode cX9_see 19 = .ok (.ifCond .eq 7, 3) := by decide +kernel
theorem dX9_see_22 : decode cX9_see 22 = .ok (.iconst 1, 1) := by decide +kernel
theorem dX9_see_23 : decode cX9_see 23 = .ok (.goto 4, 3) := by decide +kernel
theorem dX9_see_26 : decode cX9_see 26 = .ok (.iconst 0, 1) := by decide +kernel
theorem dX9_see_27 : decode cX9_see 27 = .ok (.istore 5, 2) := by decide +kernel
theorem dX9_see_29 : decode cX9_see 29 = .ok (.iload 5, 2) := by decide +kernel
theorem dX9_see_31 : decode cX9_see 31 = .ok (.iload_n 3, 1) := by decide +kernel
theorem dX9_see_32 : decode cX9_see 32 = .ok (.invokestatic 180, 3) := by decide +kernel
theorem dX9_see_35 : decode cX9_see 35 = .ok (.ifCond .eq 16, 3) := by decide +kernel
theorem dX9_see_38 : decode cX9_see 38 = .ok (.iload_n 3, 1) := by decide +kernel
theorem dX9_see_39 : decode cX9_see 39 = .ok (.iload 4, 2) := by decide +kernel
theorem dX9_see_41 : decode cX9_see 41 = .ok (.invokestatic 201, 3) := by decide +kernel
theorem dX9_see_44 : decode cX9_see 44 = .ok (.ifCond .eq 7, 3) := by decide +kernel
theorem dX9_see_47 : decode cX9_see 47 = .ok (.iconst 1, 1) := by decide +kernel
theorem dX9_see_48 : decode cX9_see 48 = .ok (.goto 4, 3) := by decide +kernel
theorem dX9_see_51 : decode cX9_see 51 = .ok (.iconst 0, 1) := by decide +kernel
theorem dX9_see_52 : decode cX9_see 52 = .ok (.aload_n 0, 1) := by decide +kernel
theorem dX9_see_53 : decode cX9_see 53 = .ok (.getfield 19, 3) := by decide +kernel
theorem dX9_see_56 : decode cX9_see 56 = .ok (.iload_n 1, 1) := by decide +kernel
theorem dX9_see_57 : decode cX9_see 57 = .ok (.iload_n 2, 1) := by decide +kernel
theorem dX9_see_58 : decode cX9_see 58 = .ok (.invokevirtual 171, 3) := by decide +kernel
theorem dX9_see_61 : decode cX9_see 61 = .ok (.aload_n 0, 1) := by decide +kernel
theorem dX9_see_62 : decode cX9_see 62 = .ok (.getfield 36, 3) := by decide +kernel
theorem dX9_see_65 : decode cX9_see 65 = .ok (.invokevirtual 253, 3) := by decide +kernel
theorem dX9_see_68 : decode cX9_see 68 = .ok (.invokestatic 72, 3) := by decide +kernel
theorem dX9_see_71 : decode cX9_see 71 = .ok (.istore 6, 2) := by decide +kernel
theorem dX9_see_73 : decode cX9_see 73 = .ok (.iload 6, 2) := by decide +kernel
theorem dX9_see_75 : decode cX9_see 75 = .ok (.ifCond .eq 8, 3) := by decide +kernel
theorem dX9_see_78 : decode cX9_see 78 = .ok (.iload 6, 2) := by decide +kernel
theorem dX9_see_80 : decode cX9_see 80 = .ok (.goto 15, 3) := by decide +kernel
theorem dX9_see_83 : decode cX9_see 83 = .ok (.aload_n 0, 1) := by decide +kernel
theorem dX9_see_84 : decode cX9_see 84 = .ok (.getfield 36, 3) := by decide +kernel
theorem dX9_see_87 : decode cX9_see 87 = .ok (.iload_n 1, 1) := by decide +kernel
theorem dX9_see_88 : decode cX9_see 88 = .ok (.iload_n 2, 1) := by decide +kernel
theorem dX9_see_89 : decode cX9_see 89 = .ok (.iload_n 3, 1) := by decide +kernel
theorem dX9_see_90 : decode cX9_see 90 = .ok (.iload 4, 2) := by decide +kernel
theorem dX9_see_92 : decode cX9_see 92 = .ok (.invokevirtual 254, 3) := by decide +kernel
theorem dX9_see_95 : decode cX9_see 95 = .ok (.ireturn, 1) := by decide +kernel
theorem dX9_honest_0 : decode cX9_honest 0 = .ok (.iconst 0, 1) := by decide +kernel
theorem dX9_honest_1 : decode cX9_honest 1 = .ok (.istore_n 1, 1) := by decide +kernel
theorem dX9_honest_2 : decode cX9_honest 2 = .ok (.iconst 0, 1) := by decide +kernel
theorem dX9_honest_3 : decode cX9_honest 3 = .ok (.istore_n 2, 1) := by decide +kernel
theorem dX9_honest_4 : decode cX9_honest 4 = .ok (.iload_n 2, 1) := by decide +kernel
theorem dX9_honest_5 : decode cX9_honest 5 = .ok (.aload_n 0, 1) := by decide +kernel
theorem dX9_honest_6 : decode cX9_honest 6 = .ok (.getfield 19, 3) := by decide +kernel
theorem dX9_honest_9 : decode cX9_honest 9 = .ok (.getfield 97, 3) := by decide +kernel
theorem dX9_honest_12 : decode cX9_honest 12 = .ok (.if_icmp .ge 30, 3) := by decide +kernel
theorem dX9_honest_15 : decode cX9_honest 15 = .ok (.aload_n 0, 1) := by decide +kernel
theorem dX9_honest_16 : decode cX9_honest 16 = .ok (.getfield 36, 3) := by decide +kernel
theorem dX9_honest_19 : decode cX9_honest 19 = .ok (.aload_n 0, 1) := by decide +kernel
theorem dX9_honest_20 : decode cX9_honest 20 = .ok (.getfield 19, 3) := by decide +kernel
theorem dX9_honest_23 : decode cX9_honest 23 = .ok (.iload_n 2, 1) := by decide +kernel
theorem dX9_honest_24 : decode cX9_honest 24 = .ok (.invokevirtual 258, 3) := by decide +kernel
theorem dX9_honest_27 : decode cX9_honest 27 = .ok (.ifCond .ne 9, 3) := by decide +kernel
theorem dX9_honest_30 : decode cX9_honest 30 = .ok (.iload_n 1, 1) := by decide +kernel
theorem dX9_honest_31 : decode cX9_honest 31 = .ok (.iconst 1, 1) := by decide +kernel
theorem dX9_honest_32 : decode cX9_honest 32 = .ok (.iload_n 2, 1) := by decide +kernel
theorem dX9_honest_33 : decode cX9_honest 33 = .ok (.ishl, 1) := by decide +kernel
theorem dX9_honest_34 : decode cX9_honest 34 = .ok (.ior, 1) := by decide +kernel
theorem dX9_honest_35 : decode cX9_honest 35 = .ok (.istore_n 1, 1) := by decide +kernel
theorem dX9_honest_36 : decode cX9_honest 36 = .ok (.iinc 2 1, 3) := by decide +kernel
theorem dX9_honest_39 : decode cX9_honest 39 = .ok (.goto (-35), 3) := by decide +kernel
theorem dX9_honest_42 : decode cX9_honest 42 = .ok (.iload_n 1, 1) := by decide +kernel
theorem dX9_honest_43 : decode cX9_honest 43 = .ok (.ireturn, 1) := by decide +kernel
theorem dX9_nods_0 : decode cX9_nods 0 = .ok (.aload_n 0, 1) := by decide +kernel
theorem dX9_nods_1 : decode cX9_nods 1 = .ok (.getfield 19, 3) := by decide +kernel
theorem dX9_nods_4 : decode cX9_nods 4 = .ok (.iload_n 1, 1) := by decide +kernel
theorem dX9_nods_5 : decode cX9_nods 5 = .ok (.invokevirtual 124, 3) := by decide +kernel
theorem dX9_nods_8 : decode cX9_nods 8 = .ok (.ifCond .eq 18, 3) := by decide +kernel
theorem dX9_nods_11 : decode cX9_nods 11 = .ok (.aload_n 0, 1) := by decide +kernel
theorem dX9_nods_12 : decode cX9_nods 12 = .ok (.getfield 36, 3) := by decide +kernel
theorem dX9_nods_15 : decode cX9_nods 15 = .ok (.aload_n 0, 1) := by decide +kernel
theorem dX9_nods_16 : decode cX9_nods 16 = .ok (.getfield 19, 3) := by decide +kernel
theorem dX9_nods_19 : decode cX9_nods 19 = .ok (.iload_n 1, 1) := by decide +kernel
theorem dX9_nods_20 : decode cX9_nods 20 = .ok (.invokevirtual 258, 3) := by decide +kernel
theorem dX9_nods_23 : decode cX9_nods 23 = .ok (.goto 5, 3) := by decide +kernel
theorem dX9_nods_26 : decode cX9_nods 26 = .ok (.ldc 128, 2) := by decide +kernel
theorem dX9_nods_28 : decode cX9_nods 28 = .ok (.ireturn, 1) := by decide +kernel
theorem dX9_showNext_0 : decode cX9_showNext 0 = .ok (.aload_n 0, 1) := by decide +kernel
theorem dX9_showNext_1 : decode cX9_showNext 1 = .ok (.getfield 19, 3) := by decide +kernel
theorem dX9_showNext_4 : decode cX9_showNext 4 = .ok (.iload_n 1, 1) := by decide +kernel
theorem dX9_showNext_5 : decode cX9_showNext 5 = .ok (.iload_n 2, 1) := by decide +kernel
theorem dX9_showNext_6 : decode cX9_showNext 6 = .ok (.invokevirtual 144, 3) := by decide +kernel
theorem dX9_showNext_9 : decode cX9_showNext 9 = .ok (.iconst 1, 1) := by decide +kernel
theorem dX9_showNext_10 : decode cX9_showNext 10 = .ok (.aload_n 0, 1) := by decide +kernel
theorem dX9_showNext_11 : decode cX9_showNext 11 = .ok (.getfield 19, 3) := by decide +kernel
theorem dX9_showNext_14 : decode cX9_showNext 14 = .ok (.iload_n 1, 1) := by decide +kernel
theorem dX9_showNext_15 : decode cX9_showNext 15 = .ok (.iload_n 2, 1) := by decide +kernel
theorem dX9_showNext_16 : decode cX9_showNext 16 = .ok (.invokevirtual 171, 3) := by decide +kernel
theorem dX9_showNext_19 : decode cX9_showNext 19 = .ok (.iconst 1, 1) := by decide +kernel
theorem dX9_showNext_20 : decode cX9_showNext 20 = .ok (.invokestatic 72, 3) := by decide +kernel
theorem dX9_showNext_23 : decode cX9_showNext 23 = .ok (.istore_n 3, 1) := by decide +kernel
theorem dX9_showNext_24 : decode cX9_showNext 24 = .ok (.iload_n 3, 1) := by decide +kernel
theorem dX9_showNext_25 : decode cX9_showNext 25 = .ok (.ifCond .eq 7, 3) := by decide +kernel
theorem dX9_showNext_28 : decode cX9_showNext 28 = .ok (.iload_n 3, 1) := by decide +kernel
theorem dX9_showNext_29 : decode cX9_showNext 29 = .ok (.goto 20, 3) := by decide +kernel
theorem dX9_showNext_32 : decode cX9_showNext 32 = .ok (.aload_n 0, 1) := by decide +kernel
theorem dX9_showNext_33 : decode cX9_showNext 33 = .ok (.getfield 19, 3) := by decide +kernel
theorem dX9_showNext_36 : decode cX9_showNext 36 = .ok (.aload_n 0, 1) := by decide +kernel
theorem dX9_showNext_37 : decode cX9_showNext 37 = .ok (.getfield 19, 3) := by decide +kernel
theorem dX9_showNext_40 : decode cX9_showNext 40 = .ok (.iload_n 1, 1) := by decide +kernel
theorem dX9_showNext_41 : decode cX9_showNext 41 = .ok (.iload_n 2, 1) := by decide +kernel
theorem dX9_showNext_42 : decode cX9_showNext 42 = .ok (.invokevirtual 148, 3) := by decide +kernel
theorem dX9_showNext_45 : decode cX9_showNext 45 = .ok (.iload_n 1, 1) := by decide +kernel
theorem dX9_showNext_46 : decode cX9_showNext 46 = .ok (.invokestatic 262, 3) := by decide +kernel
theorem dX9_showNext_49 : decode cX9_showNext 49 = .ok (.ireturn, 1) := by decide +kernel
theorem dX9_write_0 : decode cX9_write 0 = .ok (.aload_n 0, 1) := by decide +kernel
theorem dX9_write_1 : decode cX9_write 1 = .ok (.getfield 19, 3) := by decide +kernel
theorem dX9_write_4 : decode cX9_write 4 = .ok (.iload_n 1, 1) := by decide +kernel
theorem dX9_write_5 : decode cX9_write 5 = .ok (.invokevirtual 124, 3) := by decide +kernel
theorem dX9_write_8 : decode cX9_write 8 = .ok (.ifCond .eq 18, 3) := by decide +kernel
theorem dX9_write_11 : decode cX9_write 11 = .ok (.aload_n 0, 1) := by decide +kernel
theorem dX9_write_12 : decode cX9_write 12 = .ok (.getfield 19, 3) := by decide +kernel
theorem dX9_write_15 : decode cX9_write 15 = .ok (.iload_n 2, 1) := by decide +kernel
theorem dX9_write_16 : decode cX9_write 16 = .ok (.invokevirtual 124, 3) := by decide +kernel
theorem dX9_write_19 : decode cX9_write 19 = .ok (.ifCond .eq 7, 3) := by decide +kernel
theorem dX9_write_22 : decode cX9_write 22 = .ok (.iconst 1, 1) := by decide +kernel
theorem dX9_write_23 : decode cX9_write 23 = .ok (.goto 4, 3) := by decide +kernel
theorem dX9_write_26 : decode cX9_write 26 = .ok (.iconst 0, 1) := by decide +kernel
theorem dX9_write_27 : decode cX9_write 27 = .ok (.iconst 1, 1) := by decide +kernel
theorem dX9_write_28 : decode cX9_write 28 = .ok (.iconst 1, 1) := by decide +kernel
theorem dX9_write_29 : decode cX9_write 29 = .ok (.aload_n 0, 1) := by decide +kernel
theorem dX9_write_30 : decode cX9_write 30 = .ok (.getfield 43, 3) := by decide +kernel
theorem dX9_write_33 : decode cX9_write 33 = .ok (.invokevirtual 265, 3) := by decide +kernel
theorem dX9_write_36 : decode cX9_write 36 = .ok (.invokestatic 72, 3) := by decide +kernel
theorem dX9_write_39 : decode cX9_write 39 = .ok (.istore_n 3, 1) := by decide +kernel
theorem dX9_write_40 : decode cX9_write 40 = .ok (.iload_n 3, 1) := by decide +kernel
theorem dX9_write_41 : decode cX9_write 41 = .ok (.ifCond .eq 7, 3) := by decide +kernel
theorem dX9_write_44 : decode cX9_write 44 = .ok (.iload_n 3, 1) := by decide +kernel
theorem dX9_write_45 : decode cX9_write 45 = .ok (.goto 12, 3) := by decide +kernel
theorem dX9_write_48 : decode cX9_write 48 = .ok (.aload_n 0, 1) := by decide +kernel
theorem dX9_write_49 : decode cX9_write 49 = .ok (.getfield 43, 3) := by decide +kernel
theorem dX9_write_52 : decode cX9_write 52 = .ok (.iload_n 1, 1) := by decide +kernel
theorem dX9_write_53 : decode cX9_write 53 = .ok (.iload_n 2, 1) := by decide +kernel
theorem dX9_write_54 : decode cX9_write 54 = .ok (.invokevirtual 266, 3) := by decide +kernel
theorem dX9_write_57 : decode cX9_write 57 = .ok (.ireturn, 1) := by decide +kernel
theorem dX9_tear_0 : decode cX9_tear 0 = .ok (.aload_n 0, 1) := by decide +kernel
theorem dX9_tear_1 : decode cX9_tear 1 = .ok (.getfield 36, 3) := by decide +kernel
theorem dX9_tear_4 : decode cX9_tear 4 = .ok (.getfield 120, 3) := by decide +kernel
theorem dX9_tear_7 : decode cX9_tear 7 = .ok (.aload_n 0, 1) := by decide +kernel
theorem dX9_tear_8 : decode cX9_tear 8 = .ok (.getfield 43, 3) := by decide +kernel
theorem dX9_tear_11 : decode cX9_tear 11 = .ok (.getfield 121, 3) := by decide +kernel
theorem dX9_tear_14 : decode cX9_tear 14 = .ok (.iadd, 1) := by decide +kernel
theorem dX9_tear_15 : decode cX9_tear 15 = .ok (.istore_n 1, 1) := by decide +kernel
theorem dX9_tear_16 : decode cX9_tear 16 = .ok (.aload_n 0, 1) := by decide +kernel
theorem dX9_tear_17 : decode cX9_tear 17 = .ok (.getfield 36, 3) := by decide +kernel
theorem dX9_tear_20 : decode cX9_tear 20 = .ok (.invokevirtual 92, 3) := by decide +kernel
theorem dX9_tear_23 : decode cX9_tear 23 = .ok (.aload_n 0, 1) := by decide +kernel
theorem dX9_tear_24 : decode cX9_tear 24 = .ok (.getfield 43, 3) := by decide +kernel
theorem dX9_tear_27 : decode cX9_tear 27 = .ok (.invokevirtual 93, 3) := by decide +kernel
theorem dX9_tear_30 : decode cX9_tear 30 = .ok (.iload_n 1, 1) := by decide +kernel
theorem dX9_tear_31 : decode cX9_tear 31 = .ok (.ireturn, 1) := by decide +kernel
theorem dX9_judge_0 : decode cX9_judge 0 = .ok (.aload_n 0, 1) := by decide +kernel
theorem dX9_judge_1 : decode cX9_judge 1 = .ok (.getfield 43, 3) := by decide +kernel
theorem dX9_judge_4 : decode cX9_judge 4 = .ok (.aload_n 0, 1) := by decide +kernel
theorem dX9_judge_5 : decode cX9_judge 5 = .ok (.getfield 19, 3) := by decide +kernel
theorem dX9_judge_8 : decode cX9_judge 8 = .ok (.invokevirtual 268, 3) := by decide +kernel
theorem dX9_judge_11 : decode cX9_judge 11 = .ok (.ireturn, 1) := by decide +kernel
theorem dX9_seed_0 : decode cX9_seed 0 = .ok (.iload_n 1, 1) := by decide +kernel
theorem dX9_seed_1 : decode cX9_seed 1 = .ok (.ifCond .ge 6, 3) := by decide +kernel
theorem dX9_seed_4 : decode cX9_seed 4 = .ok (.ldc 123, 2) := by decide +kernel
theorem dX9_seed_6 : decode cX9_seed 6 = .ok (.ireturn, 1) := by decide +kernel
theorem dX9_seed_7 : decode cX9_seed 7 = .ok (.aload_n 0, 1) := by decide +kernel
theorem dX9_seed_8 : decode cX9_seed 8 = .ok (.getfield 50, 3) := by decide +kernel
theorem dX9_seed_11 : decode cX9_seed 11 = .ok (.getfield 271, 3) := by decide +kernel
theorem dX9_seed_14 : decode cX9_seed 14 = .ok (.istore_n 2, 1) := by decide +kernel
theorem dX9_seed_15 : decode cX9_seed 15 = .ok (.aload_n 0, 1) := by decide +kernel
theorem dX9_seed_16 : decode cX9_seed 16 = .ok (.getfield 50, 3) := by decide +kernel
theorem dX9_seed_19 : decode cX9_seed 19 = .ok (.iload_n 1, 1) := by decide +kernel
theorem dX9_seed_20 : decode cX9_seed 20 = .ok (.putfield 271, 3) := by decide +kernel
theorem dX9_seed_23 : decode cX9_seed 23 = .ok (.iload_n 2, 1) := by decide +kernel
theorem dX9_seed_24 : decode cX9_seed 24 = .ok (.ireturn, 1) := by decide +kernel
theorem dX9_keep_0 : decode cX9_keep 0 = .ok (.aload_n 0, 1) := by decide +kernel
theorem dX9_keep_1 : decode cX9_keep 1 = .ok (.iload_n 1, 1) := by decide +kernel
theorem dX9_keep_2 : decode cX9_keep 2 = .ok (.invokevirtual 274, 3) := by decide +kernel
theorem dX9_keep_5 : decode cX9_keep 5 = .ok (.astore_n 2, 1) := by decide +kernel
theorem dX9_keep_6 : decode cX9_keep 6 = .ok (.aload_n 2, 1) := by decide +kernel
theorem dX9_keep_7 : decode cX9_keep 7 = .ok (.ifnonnull 6, 3) := by decide +kernel
theorem dX9_keep_10 : decode cX9_keep 10 = .ok (.ldc 128, 2) := by decide +kernel
theorem dX9_keep_12 : decode cX9_keep 12 = .ok (.ireturn, 1) := by decide +kernel
theorem dX9_keep_13 : decode cX9_keep 13 = .ok (.aload_n 2, 1) := by decide +kernel
theorem dX9_keep_14 : decode cX9_keep 14 = .ok (.aload_n 0, 1) := by decide +kernel
theorem dX9_keep_15 : decode cX9_keep 15 = .ok (.getfield 19, 3) := by decide +kernel
theorem dX9_keep_18 : decode cX9_keep 18 = .ok (.aload_n 0, 1) := by decide +kernel
theorem dX9_keep_19 : decode cX9_keep 19 = .ok (.getfield 50, 3) := by decide +kernel
theorem dX9_keep_22 : decode cX9_keep 22 = .ok (.getfield 271, 3) := by decide +kernel
theorem dX9_keep_25 : decode cX9_keep 25 = .ok (.invokevirtual 278, 3) := by decide +kernel
theorem dX9_keep_28 : decode cX9_keep 28 = .ok (.aload_n 0, 1) := by decide +kernel
theorem dX9_keep_29 : decode cX9_keep 29 = .ok (.getfield 29, 3) := by decide +kernel
theorem dX9_keep_32 : decode cX9_keep 32 = .ok (.invokevirtual 91, 3) := by decide +kernel
theorem dX9_keep_35 : decode cX9_keep 35 = .ok (.iconst 1, 1) := by decide +kernel
theorem dX9_keep_36 : decode cX9_keep 36 = .ok (.ireturn, 1) := by decide +kernel
theorem dX9_goBack_0 : decode cX9_goBack 0 = .ok (.aload_n 0, 1) := by decide +kernel
theorem dX9_goBack_1 : decode cX9_goBack 1 = .ok (.iload_n 1, 1) := by decide +kernel
theorem dX9_goBack_2 : decode cX9_goBack 2 = .ok (.invokevirtual 274, 3) := by decide +kernel
theorem dX9_goBack_5 : decode cX9_goBack 5 = .ok (.astore_n 2, 1) := by decide +kernel
theorem dX9_goBack_6 : decode cX9_goBack 6 = .ok (.aload_n 2, 1) := by decide +kernel
theorem dX9_goBack_7 : decode cX9_goBack 7 = .ok (.ifnonnull 6, 3) := by decide +kernel
theorem dX9_goBack_10 : decode cX9_goBack 10 = .ok (.ldc 128, 2) := by decide +kernel
theorem dX9_goBack_12 : decode cX9_goBack 12 = .ok (.ireturn, 1) := by decide +kernel
theorem dX9_goBack_13 : decode cX9_goBack 13 = .ok (.aload_n 2, 1) := by decide +kernel
theorem dX9_goBack_14 : decode cX9_goBack 14 = .ok (.getfield 282, 3) := by decide +kernel
theorem dX9_goBack_17 : decode cX9_goBack 17 = .ok (.ifCond .ne 6, 3) := by decide +kernel
theorem dX9_goBack_20 : decode cX9_goBack 20 = .ok (.ldc 200, 2) := by decide +kernel
theorem dX9_goBack_22 : decode cX9_goBack 22 = .ok (.ireturn, 1) := by decide +kernel
theorem dX9_goBack_23 : decode cX9_goBack 23 = .ok (.aload_n 0, 1) := by decide +kernel
theorem dX9_goBack_24 : decode cX9_goBack 24 = .ok (.getfield 19, 3) := by decide +kernel
theorem dX9_goBack_27 : decode cX9_goBack 27 = .ok (.aload_n 2, 1) := by decide +kernel
theorem dX9_goBack_28 : decode cX9_goBack 28 = .ok (.getfield 286, 3) := by decide +kernel
theorem dX9_goBack_31 : decode cX9_goBack 31 = .ok (.invokevirtual 87, 3) := by decide +kernel
theorem dX9_goBack_34 : decode cX9_goBack 34 = .ok (.aload_n 0, 1) := by decide +kernel
theorem dX9_goBack_35 : decode cX9_goBack 35 = .ok (.getfield 50, 3) := by decide +kernel
theorem dX9_goBack_38 : decode cX9_goBack 38 = .ok (.aload_n 2, 1) := by decide +kernel
theorem dX9_goBack_39 : decode cX9_goBack 39 = .ok (.getfield 289, 3) := by decide +kernel
theorem dX9_goBack_42 : decode cX9_goBack 42 = .ok (.putfield 271, 3) := by decide +kernel
theorem dX9_goBack_45 : decode cX9_goBack 45 = .ok (.aload_n 0, 1) := by decide +kernel
theorem dX9_goBack_46 : decode cX9_goBack 46 = .ok (.getfield 29, 3) := by decide +kernel
theorem dX9_goBack_49 : decode cX9_goBack 49 = .ok (.invokevirtual 91, 3) := by decide +kernel
theorem dX9_goBack_52 : decode cX9_goBack 52 = .ok (.iconst 1, 1) := by decide +kernel
theorem dX9_goBack_53 : decode cX9_goBack 53 = .ok (.ireturn, 1) := by decide +kernel
theorem dX9_refusal_0 : decode cX9_refusal 0 = .ok (.iload_n 0, 1) := by decide +kernel
theorem dX9_refusal_1 : decode cX9_refusal 1 = .ok (.ifCond .ne 6, 3) := by decide +kernel
theorem dX9_refusal_4 : decode cX9_refusal 4 = .ok (.ldc 128, 2) := by decide +kernel
theorem dX9_refusal_6 : decode cX9_refusal 6 = .ok (.ireturn, 1) := by decide +kernel
theorem dX9_refusal_7 : decode cX9_refusal 7 = .ok (.iload_n 1, 1) := by decide +kernel
theorem dX9_refusal_8 : decode cX9_refusal 8 = .ok (.ifCond .ne 6, 3) := by decide +kernel
theorem dX9_refusal_11 : decode cX9_refusal 11 = .ok (.ldc 123, 2) := by decide +kernel
theorem dX9_refusal_13 : decode cX9_refusal 13 = .ok (.ireturn, 1) := by decide +kernel
theorem dX9_refusal_14 : decode cX9_refusal 14 = .ok (.iload_n 2, 1) := by decide +kernel
theorem dX9_refusal_15 : decode cX9_refusal 15 = .ok (.ifCond .ne 6, 3) := by decide +kernel
theorem dX9_refusal_18 : decode cX9_refusal 18 = .ok (.ldc 200, 2) := by decide +kernel
theorem dX9_refusal_20 : decode cX9_refusal 20 = .ok (.ireturn, 1) := by decide +kernel
theorem dX9_refusal_21 : decode cX9_refusal 21 = .ok (.iload_n 3, 1) := by decide +kernel
theorem dX9_refusal_22 : decode cX9_refusal 22 = .ok (.ifCond .eq 7, 3) := by decide +kernel
theorem dX9_refusal_25 : decode cX9_refusal 25 = .ok (.iconst 0, 1) := by decide +kernel
theorem dX9_refusal_26 : decode cX9_refusal 26 = .ok (.goto 6, 3) := by decide +kernel
theorem dX9_refusal_29 : decode cX9_refusal 29 = .ok (.ldc_w 290, 3) := by decide +kernel
theorem dX9_refusal_32 : decode cX9_refusal 32 = .ok (.ireturn, 1) := by decide +kernel
theorem dX9_refusalOfYears_0 : decode cX9_refusalOfYears 0 = .ok (.iconst 1, 1) := by decide +kernel
theorem dX9_refusalOfYears_1 : decode cX9_refusalOfYears 1 = .ok (.iload_n 1, 1) := by decide +kernel
theorem dX9_refusalOfYears_2 : decode cX9_refusalOfYears 2 = .ok (.iconst 1, 1) := by decide +kernel
theorem dX9_refusalOfYears_3 : decode cX9_refusalOfYears 3 = .ok (.bipush 60, 2) := by decide +kernel
theorem dX9_refusalOfYears_5 : decode cX9_refusalOfYears 5 = .ok (.invokestatic 64, 3) := by decide +kernel
theorem dX9_refusalOfYears_8 : decode cX9_refusalOfYears 8 = .ok (.aload_n 0, 1) := by decide +kernel
theorem dX9_refusalOfYears_9 : decode cX9_refusalOfYears 9 = .ok (.getfield 19, 3) := by decide +kernel
theorem dX9_refusalOfYears_12 : decode cX9_refusalOfYears 12 = .ok (.getfield 97, 3) := by decide +kernel
theorem dX9_refusalOfYears_15 : decode cX9_refusalOfYears 15 = .ok (.ifCond .le 7, 3) := by decide +kernel
theorem dX9_refusalOfYears_18 : decode cX9_refusalOfYears 18 = .ok (.iconst 1, 1) := by decide +kernel
theorem dX9_refusalOfYears_19 : decode cX9_refusalOfYears 19 = .ok (.goto 4, 3) := by decide +kernel
theorem dX9_refusalOfYears_22 : decode cX9_refusalOfYears 22 = .ok (.iconst 0, 1) := by decide +kernel
theorem dX9_refusalOfYears_23 : decode cX9_refusalOfYears 23 = .ok (.aload_n 0, 1) := by decide +kernel
theorem dX9_refusalOfYears_24 : decode cX9_refusalOfYears 24 = .ok (.getfield 19, 3) := by decide +kernel
theorem dX9_refusalOfYears_27 : decode cX9_refusalOfYears 27 = .ok (.getfield 107, 3) := by decide +kernel
theorem dX9_refusalOfYears_30 : decode cX9_refusalOfYears 30 = .ok (.sipush 9000, 3) := by decide +kernel
theorem dX9_refusalOfYears_33 : decode cX9_refusalOfYears 33 = .ok (.if_icmp .gt 7, 3) := by decide +kernel
theorem dX9_refusalOfYears_36 : decode cX9_refusalOfYears 36 = .ok (.iconst 1, 1) := by decide +kernel
theorem dX9_refusalOfYears_37 : decode cX9_refusalOfYears 37 = .ok (.goto 4, 3) := by decide +kernel
theorem dX9_refusalOfYears_40 : decode cX9_refusalOfYears 40 = .ok (.iconst 0, 1) := by decide +kernel
theorem dX9_refusalOfYears_41 : decode cX9_refusalOfYears 41 = .ok (.invokestatic 72, 3) := by decide +kernel
theorem dX9_refusalOfYears_44 : decode cX9_refusalOfYears 44 = .ok (.ireturn, 1) := by decide +kernel
theorem dX9_isAsked_0 : decode cX9_isAsked 0 = .ok (.aload_n 0, 1) := by decide +kernel
theorem dX9_isAsked_1 : decode cX9_isAsked 1 = .ok (.getfield 19, 3) := by decide +kernel
theorem dX9_isAsked_4 : decode cX9_isAsked 4 = .ok (.iload_n 1, 1) := by decide +kernel
theorem dX9_isAsked_5 : decode cX9_isAsked 5 = .ok (.iload_n 2, 1) := by decide +kernel
theorem dX9_isAsked_6 : decode cX9_isAsked 6 = .ok (.invokevirtual 144, 3) := by decide +kernel
theorem dX9_isAsked_9 : decode cX9_isAsked 9 = .ok (.ifCond .eq 26, 3) := by decide +kernel
theorem dX9_isAsked_12 : decode cX9_isAsked 12 = .ok (.aload_n 0, 1) := by decide +kernel
theorem dX9_isAsked_13 : decode cX9_isAsked 13 = .ok (.getfield 19, 3) := by decide +kernel
theorem dX9_isAsked_16 : decode cX9_isAsked 16 = .ok (.iload_n 3, 1) := by decide +kernel
theorem dX9_isAsked_17 : decode cX9_isAsked 17 = .ok (.invokevirtual 219, 3) := by decide +kernel
theorem dX9_isAsked_20 : decode cX9_isAsked 20 = .ok (.ifCond .eq 15, 3) := by decide +kernel
theorem dX9_isAsked_23 : decode cX9_isAsked 23 = .ok (.iload_n 3, 1) := by decide +kernel
theorem dX9_isAsked_24 : decode cX9_isAsked 24 = .ok (.iload_n 1, 1) := by decide +kernel
theorem dX9_isAsked_25 : decode cX9_isAsked 25 = .ok (.invokestatic 201, 3) := by decide +kernel
theorem dX9_isAsked_28 : decode cX9_isAsked 28 = .ok (.ifCond .ne 7, 3) := by decide +kernel
theorem dX9_isAsked_31 : decode cX9_isAsked 31 = .ok (.iconst 1, 1) := by decide +kernel
theorem dX9_isAsked_32 : decode cX9_isAsked 32 = .ok (.goto 4, 3) := by decide +kernel
theorem dX9_isAsked_35 : decode cX9_isAsked 35 = .ok (.iconst 0, 1) := by decide +kernel
theorem dX9_isAsked_36 : decode cX9_isAsked 36 = .ok (.ireturn, 1) := by decide +kernel
theorem dX9_isLongEnough_0 : decode cX9_isLongEnough 0 = .ok (.iload_n 0, 1) := by decide +kernel
theorem dX9_isLongEnough_1 : decode cX9_isLongEnough 1 = .ok (.invokestatic 291, 3) := by decide +kernel
theorem dX9_isLongEnough_4 : decode cX9_isLongEnough 4 = .ok (.iconst 2, 1) := by decide +kernel
theorem dX9_isLongEnough_5 : decode cX9_isLongEnough 5 = .ok (.if_icmp .lt 7, 3) := by decide +kernel
theorem dX9_isLongEnough_8 : decode cX9_isLongEnough 8 = .ok (.iconst 1, 1) := by decide +kernel
theorem dX9_isLongEnough_9 : decode cX9_isLongEnough 9 = .ok (.goto 4, 3) := by decide +kernel
theorem dX9_isLongEnough_12 : decode cX9_isLongEnough 12 = .ok (.iconst 0, 1) := by decide +kernel
theorem dX9_isLongEnough_13 : decode cX9_isLongEnough 13 = .ok (.ireturn, 1) := by decide +kernel
theorem dX9_isRowLength_0 : decode cX9_isRowLength 0 = .ok (.iload_n 0, 1) := by decide +kernel
theorem dX9_isRowLength_1 : decode cX9_isRowLength 1 = .ok (.iconst 2, 1) := by decide +kernel
theorem dX9_isRowLength_2 : decode cX9_isRowLength 2 = .ok (.bipush 8, 2) := by decide +kernel
theorem dX9_isRowLength_4 : decode cX9_isRowLength 4 = .ok (.invokestatic 64, 3) := by decide +kernel
theorem dX9_isRowLength_7 : decode cX9_isRowLength 7 = .ok (.ireturn, 1) := by decide +kernel
theorem dX9_isWithin_0 : decode cX9_isWithin 0 = .ok (.iload_n 0, 1) := by decide +kernel
theorem dX9_isWithin_1 : decode cX9_isWithin 1 = .ok (.iload_n 1, 1) := by decide +kernel
theorem dX9_isWithin_2 : decode cX9_isWithin 2 = .ok (.if_icmp .lt 12, 3) := by decide +kernel
theorem dX9_isWithin_5 : decode cX9_isWithin 5 = .ok (.iload_n 0, 1) := by decide +kernel
theorem dX9_isWithin_6 : decode cX9_isWithin 6 = .ok (.iload_n 2, 1) := by decide +kernel
theorem dX9_isWithin_7 : decode cX9_isWithin 7 = .ok (.if_icmp .gt 7, 3) := by decide +kernel
theorem dX9_isWithin_10 : decode cX9_isWithin 10 = .ok (.iconst 1, 1) := by decide +kernel
theorem dX9_isWithin_11 : decode cX9_isWithin 11 = .ok (.goto 4, 3) := by decide +kernel
theorem dX9_isWithin_14 : decode cX9_isWithin 14 = .ok (.iconst 0, 1) := by decide +kernel
theorem dX9_isWithin_15 : decode cX9_isWithin 15 = .ok (.ireturn, 1) := by decide +kernel
theorem dX9_hasBit_0 : decode cX9_hasBit 0 = .ok (.iload_n 1, 1) := by decide +kernel
theorem dX9_hasBit_1 : decode cX9_hasBit 1 = .ok (.iconst 0, 1) := by decide +kernel
theorem dX9_hasBit_2 : decode cX9_hasBit 2 = .ok (.bipush 7, 2) := by decide +kernel
theorem dX9_hasBit_4 : decode cX9_hasBit 4 = .ok (.invokestatic 64, 3) := by decide +kernel
theorem dX9_hasBit_7 : decode cX9_hasBit 7 = .ok (.ifCond .eq 16, 3) := by decide +kernel
theorem dX9_hasBit_10 : decode cX9_hasBit 10 = .ok (.iload_n 0, 1) := by decide +kernel
theorem dX9_hasBit_11 : decode cX9_hasBit 11 = .ok (.iload_n 1, 1) := by decide +kernel
theorem dX9_hasBit_12 : decode cX9_hasBit 12 = .ok (.ishr, 1) := by decide +kernel
theorem dX9_hasBit_13 : decode cX9_hasBit 13 = .ok (.iconst 1, 1) := by decide +kernel
theorem dX9_hasBit_14 : decode cX9_hasBit 14 = .ok (.iand, 1) := by decide +kernel
theorem dX9_hasBit_15 : decode cX9_hasBit 15 = .ok (.iconst 1, 1) := by decide +kernel
theorem dX9_hasBit_16 : decode cX9_hasBit 16 = .ok (.if_icmp .ne 7, 3) := by decide +kernel
theorem dX9_hasBit_19 : decode cX9_hasBit 19 = .ok (.iconst 1, 1) := by decide +kernel
theorem dX9_hasBit_20 : decode cX9_hasBit 20 = .ok (.goto 4, 3) := by decide +kernel
theorem dX9_hasBit_23 : decode cX9_hasBit 23 = .ok (.iconst 0, 1) := by decide +kernel
theorem dX9_hasBit_24 : decode cX9_hasBit 24 = .ok (.ireturn, 1) := by decide +kernel
theorem dX9_meetByDraws_0 : decode cX9_meetByDraws 0 = .ok (.aload_n 0, 1) := by decide +kernel
theorem dX9_meetByDraws_1 : decode cX9_meetByDraws 1 = .ok (.getfield 50, 3) := by decide +kernel
theorem dX9_meetByDraws_4 : decode cX9_meetByDraws 4 = .ok (.aload_n 0, 1) := by decide +kernel
theorem dX9_meetByDraws_5 : decode cX9_meetByDraws 5 = .ok (.getfield 19, 3) := by decide +kernel
theorem dX9_meetByDraws_8 : decode cX9_meetByDraws 8 = .ok (.getfield 97, 3) := by decide +kernel
theorem dX9_meetByDraws_11 : decode cX9_meetByDraws 11 = .ok (.invokevirtual 296, 3) := by decide +kernel
theorem dX9_meetByDraws_14 : decode cX9_meetByDraws 14 = .ok (.istore_n 1, 1) := by decide +kernel
theorem dX9_meetByDraws_15 : decode cX9_meetByDraws 15 = .ok (.aload_n 0, 1) := by decide +kernel
theorem dX9_meetByDraws_16 : decode cX9_meetByDraws 16 = .ok (.getfield 50, 3) := by decide +kernel
theorem dX9_meetByDraws_19 : decode cX9_meetByDraws 19 = .ok (.aload_n 0, 1) := by decide +kernel
theorem dX9_meetByDraws_20 : decode cX9_meetByDraws 20 = .ok (.getfield 19, 3) := by decide +kernel
theorem dX9_meetByDraws_23 : decode cX9_meetByDraws 23 = .ok (.getfield 97, 3) := by decide +kernel
theorem dX9_meetByDraws_26 : decode cX9_meetByDraws 26 = .ok (.invokevirtual 296, 3) := by decide +kernel
theorem dX9_meetByDraws_29 : decode cX9_meetByDraws 29 = .ok (.istore_n 2, 1) := by decide +kernel
theorem dX9_meetByDraws_30 : decode cX9_meetByDraws 30 = .ok (.iload_n 1, 1) := by decide +kernel
theorem dX9_meetByDraws_31 : decode cX9_meetByDraws 31 = .ok (.iload_n 2, 1) := by decide +kernel
theorem dX9_meetByDraws_32 : decode cX9_meetByDraws 32 = .ok (.if_icmp .eq 12, 3) := by decide +kernel
theorem dX9_meetByDraws_35 : decode cX9_meetByDraws 35 = .ok (.aload_n 0, 1) := by decide +kernel
theorem dX9_meetByDraws_36 : decode cX9_meetByDraws 36 = .ok (.getfield 19, 3) := by decide +kernel
theorem dX9_meetByDraws_39 : decode cX9_meetByDraws 39 = .ok (.iload_n 1, 1) := by decide +kernel
theorem dX9_meetByDraws_40 : decode cX9_meetByDraws 40 = .ok (.iload_n 2, 1) := by decide +kernel
theorem dX9_meetByDraws_41 : decode cX9_meetByDraws 41 = .ok (.invokevirtual 162, 3) := by decide +kernel
theorem dX9_meetByDraws_44 : decode cX9_meetByDraws 44 = .ok (.return_, 1) := by decide +kernel
theorem dX9_imageOf_0 : decode cX9_imageOf 0 = .ok (.iload_n 1, 1) := by decide +kernel
theorem dX9_imageOf_1 : decode cX9_imageOf 1 = .ok (.ifCond .ne 8, 3) := by decide +kernel
theorem dX9_imageOf_4 : decode cX9_imageOf 4 = .ok (.aload_n 0, 1) := by decide +kernel
theorem dX9_imageOf_5 : decode cX9_imageOf 5 = .ok (.getfield 57, 3) := by decide +kernel
theorem dX9_imageOf_8 : decode cX9_imageOf 8 = .ok (.areturn, 1) := by decide +kernel
theorem dX9_imageOf_9 : decode cX9_imageOf 9 = .ok (.iload_n 1, 1) := by decide +kernel
theorem dX9_imageOf_10 : decode cX9_imageOf 10 = .ok (.iconst 1, 1) := by decide +kernel
theorem dX9_imageOf_11 : decode cX9_imageOf 11 = .ok (.if_icmp .ne 10, 3) := by decide +kernel
theorem dX9_imageOf_14 : decode cX9_imageOf 14 = .ok (.aload_n 0, 1) := by decide +kernel
theorem dX9_imageOf_15 : decode cX9_imageOf 15 = .ok (.getfield 61, 3) := by decide +kernel
theorem dX9_imageOf_18 : decode cX9_imageOf 18 = .ok (.goto 4, 3) := by decide +kernel
theorem dX9_imageOf_21 : decode cX9_imageOf 21 = .ok (.aconst_null, 1) := by decide +kernel
theorem dX9_imageOf_22 : decode cX9_imageOf 22 = .ok (.areturn, 1) := by decide +kernel
theorem dJ6_bitCount_0f7a4_0 : decode cJ6_bitCount_0f7a4 0 = .ok (.iload_n 0, 1) := by decide +kernel
theorem dJ6_bitCount_0f7a4_1 : decode cJ6_bitCount_0f7a4 1 = .ok (.iload_n 0, 1) := by decide +kernel
theorem dJ6_bitCount_0f7a4_2 : decode cJ6_bitCount_0f7a4 2 = .ok (.iconst 1, 1) := by decide +kernel
theorem dJ6_bitCount_0f7a4_3 : decode cJ6_bitCount_0f7a4 3 = .ok (.iushr, 1) := by decide +kernel
theorem dJ6_bitCount_0f7a4_4 : decode cJ6_bitCount_0f7a4 4 = .ok (.ldc_w 265, 3) := by decide +kernel
theorem dJ6_bitCount_0f7a4_7 : decode cJ6_bitCount_0f7a4 7 = .ok (.iand, 1) := by decide +kernel
theorem dJ6_bitCount_0f7a4_8 : decode cJ6_bitCount_0f7a4 8 = .ok (.isub, 1) := by decide +kernel
theorem dJ6_bitCount_0f7a4_9 : decode cJ6_bitCount_0f7a4 9 = .ok (.istore_n 0, 1) := by decide +kernel
theorem dJ6_bitCount_0f7a4_10 : decode cJ6_bitCount_0f7a4 10 = .ok (.iload_n 0, 1) := by decide +kernel
theorem dJ6_bitCount_0f7a4_11 : decode cJ6_bitCount_0f7a4 11 = .ok (.ldc_w 266, 3) := by decide +kernel
theorem dJ6_bitCount_0f7a4_14 : decode cJ6_bitCount_0f7a4 14 = .ok (.iand, 1) := by decide +kernel
theorem dJ6_bitCount_0f7a4_15 : decode cJ6_bitCount_0f7a4 15 = .ok (.iload_n 0, 1) := by decide +kernel
theorem dJ6_bitCount_0f7a4_16 : decode cJ6_bitCount_0f7a4 16 = .ok (.iconst 2, 1) := by decide +kernel
theorem dJ6_bitCount_0f7a4_17 : decode cJ6_bitCount_0f7a4 17 = .ok (.iushr, 1) := by decide +kernel
theorem dJ6_bitCount_0f7a4_18 : decode cJ6_bitCount_0f7a4 18 = .ok (.ldc_w 266, 3) := by decide +kernel
theorem dJ6_bitCount_0f7a4_21 : decode cJ6_bitCount_0f7a4 21 = .ok (.iand, 1) := by decide +kernel
theorem dJ6_bitCount_0f7a4_22 : decode cJ6_bitCount_0f7a4 22 = .ok (.iadd, 1) := by decide +kernel
theorem dJ6_bitCount_0f7a4_23 : decode cJ6_bitCount_0f7a4 23 = .ok (.istore_n 0, 1) := by decide +kernel
theorem dJ6_bitCount_0f7a4_24 : decode cJ6_bitCount_0f7a4 24 = .ok (.iload_n 0, 1) := by decide +kernel
theorem dJ6_bitCount_0f7a4_25 : decode cJ6_bitCount_0f7a4 25 = .ok (.iload_n 0, 1) := by decide +kernel
theorem dJ6_bitCount_0f7a4_26 : decode cJ6_bitCount_0f7a4 26 = .ok (.iconst 4, 1) := by decide +kernel
theorem dJ6_bitCount_0f7a4_27 : decode cJ6_bitCount_0f7a4 27 = .ok (.iushr, 1) := by decide +kernel
theorem dJ6_bitCount_0f7a4_28 : decode cJ6_bitCount_0f7a4 28 = .ok (.iadd, 1) := by decide +kernel
theorem dJ6_bitCount_0f7a4_29 : decode cJ6_bitCount_0f7a4 29 = .ok (.ldc_w 267, 3) := by decide +kernel
theorem dJ6_bitCount_0f7a4_32 : decode cJ6_bitCount_0f7a4 32 = .ok (.iand, 1) := by decide +kernel
theorem dJ6_bitCount_0f7a4_33 : decode cJ6_bitCount_0f7a4 33 = .ok (.istore_n 0, 1) := by decide +kernel
theorem dJ6_bitCount_0f7a4_34 : decode cJ6_bitCount_0f7a4 34 = .ok (.iload_n 0, 1) := by decide +kernel
theorem dJ6_bitCount_0f7a4_35 : decode cJ6_bitCount_0f7a4 35 = .ok (.iload_n 0, 1) := by decide +kernel
theorem dJ6_bitCount_0f7a4_36 : decode cJ6_bitCount_0f7a4 36 = .ok (.bipush 8, 2) := by decide +kernel
theorem dJ6_bitCount_0f7a4_38 : decode cJ6_bitCount_0f7a4 38 = .ok (.iushr, 1) := by decide +kernel
theorem dJ6_bitCount_0f7a4_39 : decode cJ6_bitCount_0f7a4 39 = .ok (.iadd, 1) := by decide +kernel
theorem dJ6_bitCount_0f7a4_40 : decode cJ6_bitCount_0f7a4 40 = .ok (.istore_n 0, 1) := by decide +kernel
theorem dJ6_bitCount_0f7a4_41 : decode cJ6_bitCount_0f7a4 41 = .ok (.iload_n 0, 1) := by decide +kernel
theorem dJ6_bitCount_0f7a4_42 : decode cJ6_bitCount_0f7a4 42 = .ok (.iload_n 0, 1) := by decide +kernel
theorem dJ6_bitCount_0f7a4_43 : decode cJ6_bitCount_0f7a4 43 = .ok (.bipush 16, 2) := by decide +kernel
theorem dJ6_bitCount_0f7a4_45 : decode cJ6_bitCount_0f7a4 45 = .ok (.iushr, 1) := by decide +kernel
theorem dJ6_bitCount_0f7a4_46 : decode cJ6_bitCount_0f7a4 46 = .ok (.iadd, 1) := by decide +kernel
theorem dJ6_bitCount_0f7a4_47 : decode cJ6_bitCount_0f7a4 47 = .ok (.istore_n 0, 1) := by decide +kernel
theorem dJ6_bitCount_0f7a4_48 : decode cJ6_bitCount_0f7a4 48 = .ok (.iload_n 0, 1) := by decide +kernel
theorem dJ6_bitCount_0f7a4_49 : decode cJ6_bitCount_0f7a4 49 = .ok (.bipush 63, 2) := by decide +kernel
theorem dJ6_bitCount_0f7a4_51 : decode cJ6_bitCount_0f7a4 51 = .ok (.iand, 1) := by decide +kernel
theorem dJ6_bitCount_0f7a4_52 : decode cJ6_bitCount_0f7a4 52 = .ok (.ireturn, 1) := by decide +kernel
theorem dJ9_max_7cf53_0 : decode cJ9_max_7cf53 0 = .ok (.iload_n 0, 1) := by decide +kernel
theorem dJ9_max_7cf53_1 : decode cJ9_max_7cf53 1 = .ok (.iload_n 1, 1) := by decide +kernel
theorem dJ9_max_7cf53_2 : decode cJ9_max_7cf53 2 = .ok (.if_icmp .lt 7, 3) := by decide +kernel
theorem dJ9_max_7cf53_5 : decode cJ9_max_7cf53 5 = .ok (.iload_n 0, 1) := by decide +kernel
theorem dJ9_max_7cf53_6 : decode cJ9_max_7cf53 6 = .ok (.goto 4, 3) := by decide +kernel
theorem dJ9_max_7cf53_9 : decode cJ9_max_7cf53 9 = .ok (.iload_n 1, 1) := by decide +kernel
theorem dJ9_max_7cf53_10 : decode cJ9_max_7cf53 10 = .ok (.ireturn, 1) := by decide +kernel
theorem dJ9_min_7cf53_0 : decode cJ9_min_7cf53 0 = .ok (.iload_n 0, 1) := by decide +kernel
theorem dJ9_min_7cf53_1 : decode cJ9_min_7cf53 1 = .ok (.iload_n 1, 1) := by decide +kernel
theorem dJ9_min_7cf53_2 : decode cJ9_min_7cf53 2 = .ok (.if_icmp .gt 7, 3) := by decide +kernel
theorem dJ9_min_7cf53_5 : decode cJ9_min_7cf53 5 = .ok (.iload_n 0, 1) := by decide +kernel
theorem dJ9_min_7cf53_6 : decode cJ9_min_7cf53 6 = .ok (.goto 4, 3) := by decide +kernel
theorem dJ9_min_7cf53_9 : decode cJ9_min_7cf53 9 = .ok (.iload_n 1, 1) := by decide +kernel
theorem dJ9_min_7cf53_10 : decode cJ9_min_7cf53 10 = .ok (.ireturn, 1) := by decide +kernel
theorem dJ7_fill_53178_0 : decode cJ7_fill_53178 0 = .ok (.iconst 0, 1) := by decide +kernel
theorem dJ7_fill_53178_1 : decode cJ7_fill_53178 1 = .ok (.istore_n 2, 1) := by decide +kernel
theorem dJ7_fill_53178_2 : decode cJ7_fill_53178 2 = .ok (.aload_n 0, 1) := by decide +kernel
theorem dJ7_fill_53178_3 : decode cJ7_fill_53178 3 = .ok (.arraylength, 1) := by decide +kernel
theorem dJ7_fill_53178_4 : decode cJ7_fill_53178 4 = .ok (.istore_n 3, 1) := by decide +kernel
theorem dJ7_fill_53178_5 : decode cJ7_fill_53178 5 = .ok (.iload_n 2, 1) := by decide +kernel
theorem dJ7_fill_53178_6 : decode cJ7_fill_53178 6 = .ok (.iload_n 3, 1) := by decide +kernel
theorem dJ7_fill_53178_7 : decode cJ7_fill_53178 7 = .ok (.if_icmp .ge 13, 3) := by decide +kernel
theorem dJ7_fill_53178_10 : decode cJ7_fill_53178 10 = .ok (.aload_n 0, 1) := by decide +kernel
theorem dJ7_fill_53178_11 : decode cJ7_fill_53178 11 = .ok (.iload_n 2, 1) := by decide +kernel
theorem dJ7_fill_53178_12 : decode cJ7_fill_53178 12 = .ok (.iload_n 1, 1) := by decide +kernel
theorem dJ7_fill_53178_13 : decode cJ7_fill_53178 13 = .ok (.iastore, 1) := by decide +kernel
theorem dJ7_fill_53178_14 : decode cJ7_fill_53178 14 = .ok (.iinc 2 1, 3) := by decide +kernel
theorem dJ7_fill_53178_17 : decode cJ7_fill_53178 17 = .ok (.goto (-12), 3) := by decide +kernel
theorem dJ7_fill_53178_20 : decode cJ7_fill_53178 20 = .ok (.return_, 1) := by decide +kernel
end
section
theorem dX10_init_0 : decode cX10_init 0 = .ok (.aload_n 0, 1) := by decide +kernel
theorem dX10_init_1 : decode cX10_init 1 = .ok (.invokespecial 1, 3) := by decide +kernel
theorem dX10_init_4 : decode cX10_init 4 = .ok (.aload_n 0, 1) := by decide +kernel
theorem dX10_init_5 : decode cX10_init 5 = .ok (.bipush 8, 2) := by decide +kernel
theorem dX10_init_7 : decode cX10_init 7 = .ok (.newarray .int, 2) := by decide +kernel
theorem dX10_init_9 : decode cX10_init 9 = .ok (.putfield 7, 3) := by decide +kernel
theorem dX10_init_12 : decode cX10_init 12 = .ok (.aload_n 0, 1) := by decide +kernel
theorem dX10_init_13 : decode cX10_init 13 = .ok (.bipush 81, 2) := by decide +kernel
theorem dX10_init_15 : decode cX10_init 15 = .ok (.newarray .int, 2) := by decide +kernel
theorem dX10_init_17 : decode cX10_init 17 = .ok (.putfield 13, 3) := by decide +kernel
theorem dX10_init_20 : decode cX10_init 20 = .ok (.aload_n 0, 1) := by decide +kernel
theorem dX10_init_21 : decode cX10_init 21 = .ok (.sipush 240, 3) := by decide +kernel
theorem dX10_init_24 : decode cX10_init 24 = .ok (.newarray .int, 2) := by decide +kernel
theorem dX10_init_26 : decode cX10_init 26 = .ok (.putfield 16, 3) := by decide +kernel
theorem dX10_init_29 : decode cX10_init 29 = .ok (.aload_n 0, 1) := by decide +kernel
theorem dX10_init_30 : decode cX10_init 30 = .ok (.iconst (-1), 1) := by decide +kernel
theorem dX10_init_31 : decode cX10_init 31 = .ok (.putfield 19, 3) := by decide +kernel
theorem dX10_init_34 : decode cX10_init 34 = .ok (.aload_n 0, 1) := by decide +kernel
theorem dX10_init_35 : decode cX10_init 35 = .ok (.bipush 8, 2) := by decide +kernel
theorem dX10_init_37 : decode cX10_init 37 = .ok (.newarray .int, 2) := by decide +kernel
theorem dX10_init_39 : decode cX10_init 39 = .ok (.putfield 23, 3) := by decide +kernel
theorem dX10_init_42 : decode cX10_init 42 = .ok (.aload_n 0, 1) := by decide +kernel
theorem dX10_init_43 : decode cX10_init 43 = .ok (.bipush 8, 2) := by decide +kernel
theorem dX10_init_45 : decode cX10_init 45 = .ok (.newarray .int, 2) := by decide +kernel
theorem dX10_init_47 : decode cX10_init 47 = .ok (.putfield 26, 3) := by decide +kernel
theorem dX10_init_50 : decode cX10_init 50 = .ok (.aload_n 0, 1) := by decide +kernel
theorem dX10_init_51 : decode cX10_init 51 = .ok (.bipush 64, 2) := by decide +kernel
theorem dX10_init_53 : decode cX10_init 53 = .ok (.newarray .boolean, 2) := by decide +kernel
theorem dX10_init_55 : decode cX10_init 55 = .ok (.putfield 29, 3) := by decide +kernel
theorem dX10_init_58 : decode cX10_init 58 = .ok (.aload_n 0, 1) := by decide +kernel
theorem dX10_init_59 : decode cX10_init 59 = .ok (.sipush 1620, 3) := by decide +kernel
theorem dX10_init_62 : decode cX10_init 62 = .ok (.newarray .int, 2) := by decide +kernel
theorem dX10_init_64 : decode cX10_init 64 = .ok (.putfield 33, 3) := by decide +kernel
theorem dX10_init_67 : decode cX10_init 67 = .ok (.aload_n 0, 1) := by decide +kernel
theorem dX10_init_68 : decode cX10_init 68 = .ok (.bipush 8, 2) := by decide +kernel
theorem dX10_init_70 : decode cX10_init 70 = .ok (.newarray .int, 2) := by decide +kernel
theorem dX10_init_72 : decode cX10_init 72 = .ok (.putfield 36, 3) := by decide +kernel
theorem dX10_init_75 : decode cX10_init 75 = .ok (.aload_n 0, 1) := by decide +kernel
theorem dX10_init_76 : decode cX10_init 76 = .ok (.bipush 8, 2) := by decide +kernel
theorem dX10_init_78 : decode cX10_init 78 = .ok (.newarray .int, 2) := by decide +kernel
theorem dX10_init_80 : decode cX10_init 80 = .ok (.putfield 39, 3) := by decide +kernel
theorem dX10_init_83 : decode cX10_init 83 = .ok (.aload_n 0, 1) := by decide +kernel
theorem dX10_init_84 : decode cX10_init 84 = .ok (.bipush 8, 2) := by decide +kernel
theorem dX10_init_86 : decode cX10_init 86 = .ok (.newarray .int, 2) := by decide +kernel
theorem dX10_init_88 : decode cX10_init 88 = .ok (.putfield 42, 3) := by decide +kernel
theorem dX10_init_91 : decode cX10_init 91 = .ok (.aload_n 0, 1) := by decide +kernel
theorem dX10_init_92 : decode cX10_init 92 = .ok (.bipush 8, 2) := by decide +kernel
theorem dX10_init_94 : decode cX10_init 94 = .ok (.newarray .int, 2) := by decide +kernel
theorem dX10_init_96 : decode cX10_init 96 = .ok (.putfield 45, 3) := by decide +kernel
theorem dX10_init_99 : decode cX10_init 99 = .ok (.aload_n 0, 1) := by decide +kernel
theorem dX10_init_100 : decode cX10_init 100 = .ok (.bipush 8, 2) := by decide +kernel
theorem dX10_init_102 : decode cX10_init 102 = .ok (.newarray .int, 2) := by decide +kernel
theorem dX10_init_104 : decode cX10_init 104 = .ok (.putfield 48, 3) := by decide +kernel
theorem dX10_init_107 : decode cX10_init 107 = .ok (.aload_n 0, 1) := by decide +kernel
theorem dX10_init_108 : decode cX10_init 108 = .ok (.bipush 15, 2) := by decide +kernel
theorem dX10_init_110 : decode cX10_init 110 = .ok (.newarray .int, 2) := by decide +kernel
theorem dX10_init_112 : decode cX10_init 112 = .ok (.putfield 51, 3) := by decide +kernel
theorem dX10_init_115 : decode cX10_init 115 = .ok (.aload_n 0, 1) := by decide +kernel
theorem dX10_init_116 : decode cX10_init 116 = .ok (.bipush 15, 2) := by decide +kernel
theorem dX10_init_118 : decode cX10_init 118 = .ok (.newarray .int, 2) := by decide +kernel
theorem dX10_init_120 : decode cX10_init 120 = .ok (.putfield 54, 3) := by decide +kernel
theorem dX10_init_123 : decode cX10_init 123 = .ok (.aload_n 0, 1) := by decide +kernel
theorem dX10_init_124 : decode cX10_init 124 = .ok (.sipush 164, 3) := by decide +kernel
theorem dX10_init_127 : decode cX10_init 127 = .ok (.newarray .int, 2) := by decide +kernel
theorem dX10_init_129 : decode cX10_init 129 = .ok (.putfield 57, 3) := by decide +kernel
theorem dX10_init_132 : decode cX10_init 132 = .ok (.aload_n 0, 1) := by decide +kernel
theorem dX10_init_133 : decode cX10_init 133 = .ok (.iconst 2, 1) := by decide +kernel
theorem dX10_init_134 : decode cX10_init 134 = .ok (.newarray .boolean, 2) := by decide +kernel
theorem dX10_init_136 : decode cX10_init 136 = .ok (.putfield 60, 3) := by decide +kernel
theorem dX10_init_139 : decode cX10_init 139 = .ok (.iconst 0, 1) := by decide +kernel
theorem dX10_init_140 : decode cX10_init 140 = .ok (.istore_n 1, 1) := by decide +kernel
theorem dX10_init_141 : decode cX10_init 141 = .ok (.iload_n 1, 1) := by decide +kernel
theorem dX10_init_142 : decode cX10_init 142 = .ok (.bipush 64, 2) := by decide +kernel
theorem dX10_init_144 : decode cX10_init 144 = .ok (.if_icmp .ge 19, 3) := by decide +kernel
theorem dX10_init_147 : decode cX10_init 147 = .ok (.aload_n 0, 1) := by decide +kernel
theorem dX10_init_148 : decode cX10_init 148 = .ok (.getfield 13, 3) := by decide +kernel
theorem dX10_init_151 : decode cX10_init 151 = .ok (.bipush 16, 2) := by decide +kernel
theorem dX10_init_153 : decode cX10_init 153 = .ok (.iload_n 1, 1) := by decide +kernel
theorem dX10_init_154 : decode cX10_init 154 = .ok (.iadd, 1) := by decide +kernel
theorem dX10_init_155 : decode cX10_init 155 = .ok (.iconst (-1), 1) := by decide +kernel
theorem dX10_init_156 : decode cX10_init 156 = .ok (.iastore, 1) := by decide +kernel
theorem dX10_init_157 : decode cX10_init 157 = .ok (.iinc 1 1, 3) := by decide +kernel
theorem dX10_init_160 : decode cX10_init 160 = .ok (.goto (-19), 3) := by decide +kernel
theorem dX10_init_163 : decode cX10_init 163 = .ok (.return_, 1) := by decide +kernel
theorem dX10_in_0 : decode cX10_in 0 = .ok (.lload_n 0, 1) := by decide +kernel
theorem dX10_in_1 : decode cX10_in 1 = .ok (.lload_n 2, 1) := by decide +kernel
theorem dX10_in_2 : decode cX10_in 2 = .ok (.lcmp, 1) := by decide +kernel
theorem dX10_in_3 : decode cX10_in 3 = .ok (.ifCond .lt 14, 3) := by decide +kernel
theorem dX10_in_6 : decode cX10_in 6 = .ok (.lload_n 0, 1) := by decide +kernel
theorem dX10_in_7 : decode cX10_in 7 = .ok (.lload 4, 2) := by decide +kernel
theorem dX10_in_9 : decode cX10_in 9 = .ok (.lcmp, 1) := by decide +kernel
theorem dX10_in_10 : decode cX10_in 10 = .ok (.ifCond .gt 7, 3) := by decide +kernel
theorem dX10_in_13 : decode cX10_in 13 = .ok (.iconst 1, 1) := by decide +kernel
theorem dX10_in_14 : decode cX10_in 14 = .ok (.goto 4, 3) := by decide +kernel
theorem dX10_in_17 : decode cX10_in 17 = .ok (.iconst 0, 1) := by decide +kernel
theorem dX10_in_18 : decode cX10_in 18 = .ok (.ireturn, 1) := by decide +kernel
theorem dX10_has_0 : decode cX10_has 0 = .ok (.iload_n 0, 1) := by decide +kernel
theorem dX10_has_1 : decode cX10_has 1 = .ok (.iload_n 1, 1) := by decide +kernel
theorem dX10_has_2 : decode cX10_has 2 = .ok (.ishr, 1) := by decide +kernel
theorem dX10_has_3 : decode cX10_has 3 = .ok (.iconst 1, 1) := by decide +kernel
theorem dX10_has_4 : decode cX10_has 4 = .ok (.iand, 1) := by decide +kernel
theorem dX10_has_5 : decode cX10_has 5 = .ok (.iconst 1, 1) := by decide +kernel
theorem dX10_has_6 : decode cX10_has 6 = .ok (.if_icmp .ne 7, 3) := by decide +kernel
theorem dX10_has_9 : decode cX10_has 9 = .ok (.iconst 1, 1) := by decide +kernel
theorem dX10_has_10 : decode cX10_has 10 = .ok (.goto 4, 3) := by decide +kernel
theorem dX10_has_13 : decode cX10_has 13 = .ok (.iconst 0, 1) := by decide +kernel
theorem dX10_has_14 : decode cX10_has 14 = .ok (.ireturn, 1) := by decide +kernel
theorem dX10_bits_0 : decode cX10_bits 0 = .ok (.iconst 0, 1) := by decide +kernel
theorem dX10_bits_1 : decode cX10_bits 1 = .ok (.istore_n 1, 1) := by decide +kernel
theorem dX10_bits_2 : decode cX10_bits 2 = .ok (.iconst 0, 1) := by decide +kernel
theorem dX10_bits_3 : decode cX10_bits 3 = .ok (.istore_n 2, 1) := by decide +kernel
theorem dX10_bits_4 : decode cX10_bits 4 = .ok (.iload_n 2, 1) := by decide +kernel
theorem dX10_bits_5 : decode cX10_bits 5 = .ok (.bipush 8, 2) := by decide +kernel
theorem dX10_bits_7 : decode cX10_bits 7 = .ok (.if_icmp .ge 17, 3) := by decide +kernel
theorem dX10_bits_10 : decode cX10_bits 10 = .ok (.iload_n 1, 1) := by decide +kernel
theorem dX10_bits_11 : decode cX10_bits 11 = .ok (.iload_n 0, 1) := by decide +kernel
theorem dX10_bits_12 : decode cX10_bits 12 = .ok (.iload_n 2, 1) := by decide +kernel
theorem dX10_bits_13 : decode cX10_bits 13 = .ok (.ishr, 1) := by decide +kernel
theorem dX10_bits_14 : decode cX10_bits 14 = .ok (.iconst 1, 1) := by decide +kernel
theorem dX10_bits_15 : decode cX10_bits 15 = .ok (.iand, 1) := by decide +kernel
theorem dX10_bits_16 : decode cX10_bits 16 = .ok (.iadd, 1) := by decide +kernel
theorem dX10_bits_17 : decode cX10_bits 17 = .ok (.istore_n 1, 1) := by decide +kernel
theorem dX10_bits_18 : decode cX10_bits 18 = .ok (.iinc 2 1, 3) := by decide +kernel
theorem dX10_bits_21 : decode cX10_bits 21 = .ok (.goto (-17), 3) := by decide +kernel
theorem dX10_bits_24 : decode cX10_bits 24 = .ok (.iload_n 1, 1) := by decide +kernel
theorem dX10_bits_25 : decode cX10_bits 25 = .ok (.ireturn, 1) := by decide +kernel
theorem dX10_isPerson_0 : decode cX10_isPerson 0 = .ok (.iload_n 1, 1) := by decide +kernel
theorem dX10_isPerson_1 : decode cX10_isPerson 1 = .ok (.i2l, 1) := by decide +kernel
theorem dX10_isPerson_2 : decode cX10_isPerson 2 = .ok (.lconst 0, 1) := by decide +kernel
theorem dX10_isPerson_3 : decode cX10_isPerson 3 = .ok (.aload_n 0, 1) := by decide +kernel
theorem dX10_isPerson_4 : decode cX10_isPerson 4 = .ok (.getfield 63, 3) := by decide +kernel
theorem dX10_isPerson_7 : decode cX10_isPerson 7 = .ok (.iconst 1, 1) := by decide +kernel
theorem dX10_isPerson_8 : decode cX10_isPerson 8 = .ok (.isub, 1) := by decide +kernel
theorem dX10_isPerson_9 : decode cX10_isPerson 9 = .ok (.i2l, 1) := by decide +kernel
theorem dX10_isPerson_10 : decode cX10_isPerson 10 = .ok (.invokestatic 66, 3) := by decide +kernel
theorem dX10_isPerson_13 : decode cX10_isPerson 13 = .ok (.ireturn, 1) := by decide +kernel
theorem dX10_areTwo_0 : decode cX10_areTwo 0 = .ok (.aload_n 0, 1) := by decide +kernel
theorem dX10_areTwo_1 : decode cX10_areTwo 1 = .ok (.iload_n 1, 1) := by decide +kernel
theorem dX10_areTwo_2 : decode cX10_areTwo 2 = .ok (.invokevirtual 70, 3) := by decide +kernel
theorem dX10_areTwo_5 : decode cX10_areTwo 5 = .ok (.ifCond .eq 20, 3) := by decide +kernel
theorem dX10_areTwo_8 : decode cX10_areTwo 8 = .ok (.aload_n 0, 1) := by decide +kernel
theorem dX10_areTwo_9 : decode cX10_areTwo 9 = .ok (.iload_n 2, 1) := by decide +kernel
theorem dX10_areTwo_10 : decode cX10_areTwo 10 = .ok (.invokevirtual 70, 3) := by decide +kernel
theorem dX10_areTwo_13 : decode cX10_areTwo 13 = .ok (.ifCond .eq 12, 3) := by decide +kernel
theorem dX10_areTwo_16 : decode cX10_areTwo 16 = .ok (.iload_n 1, 1) := by decide +kernel
theorem dX10_areTwo_17 : decode cX10_areTwo 17 = .ok (.iload_n 2, 1) := by decide +kernel
theorem dX10_areTwo_18 : decode cX10_areTwo 18 = .ok (.if_icmp .eq 7, 3) := by decide +kernel
theorem dX10_areTwo_21 : decode cX10_areTwo 21 = .ok (.iconst 1, 1) := by decide +kernel
theorem dX10_areTwo_22 : decode cX10_areTwo 22 = .ok (.goto 4, 3) := by decide +kernel
theorem dX10_areTwo_25 : decode cX10_areTwo 25 = .ok (.iconst 0, 1) := by decide +kernel
theorem dX10_areTwo_26 : decode cX10_areTwo 26 = .ok (.ireturn, 1) := by decide +kernel
theorem dX10_isRow_0 : decode cX10_isRow 0 = .ok (.iload_n 1, 1) := by decide +kernel
theorem dX10_isRow_1 : decode cX10_isRow 1 = .ok (.i2l, 1) := by decide +kernel
theorem dX10_isRow_2 : decode cX10_isRow 2 = .ok (.lconst 0, 1) := by decide +kernel
theorem dX10_isRow_3 : decode cX10_isRow 3 = .ok (.iconst 1, 1) := by decide +kernel
theorem dX10_isRow_4 : decode cX10_isRow 4 = .ok (.aload_n 0, 1) := by decide +kernel
theorem dX10_isRow_5 : decode cX10_isRow 5 = .ok (.getfield 63, 3) := by decide +kernel
theorem dX10_isRow_8 : decode cX10_isRow 8 = .ok (.ishl, 1) := by decide +kernel
theorem dX10_isRow_9 : decode cX10_isRow 9 = .ok (.iconst 1, 1) := by decide +kernel
theorem dX10_isRow_10 : decode cX10_isRow 10 = .ok (.isub, 1) := by decide +kernel
theorem dX10_isRow_11 : decode cX10_isRow 11 = .ok (.i2l, 1) := by decide +kernel
theorem dX10_isRow_12 : decode cX10_isRow 12 = .ok (.invokestatic 66, 3) := by decide +kernel
theorem dX10_isRow_15 : decode cX10_isRow 15 = .ok (.ireturn, 1) := by decide +kernel
theorem dX10_feed_0 : decode cX10_feed 0 = .ok (.iload_n 1, 1) := by decide +kernel
theorem dX10_feed_1 : decode cX10_feed 1 = .ok (.i2l, 1) := by decide +kernel
theorem dX10_feed_2 : decode cX10_feed 2 = .ok (.lconst 0, 1) := by decide +kernel
theorem dX10_feed_3 : decode cX10_feed 3 = .ok (.ldc2_w 74, 3) := by decide +kernel
theorem dX10_feed_6 : decode cX10_feed 6 = .ok (.invokestatic 66, 3) := by decide +kernel
theorem dX10_feed_9 : decode cX10_feed 9 = .ok (.ifCond .ne 6, 3) := by decide +kernel
theorem dX10_feed_12 : decode cX10_feed 12 = .ok (.ldc 76, 2) := by decide +kernel
theorem dX10_feed_14 : decode cX10_feed 14 = .ok (.ireturn, 1) := by decide +kernel
theorem dX10_feed_15 : decode cX10_feed 15 = .ok (.aload_n 0, 1) := by decide +kernel
theorem dX10_feed_16 : decode cX10_feed 16 = .ok (.getfield 77, 3) := by decide +kernel
theorem dX10_feed_19 : decode cX10_feed 19 = .ok (.sipush 240, 3) := by decide +kernel
theorem dX10_feed_22 : decode cX10_feed 22 = .ok (.if_icmp .ne 6, 3) := by decide +kernel
theorem dX10_feed_25 : decode cX10_feed 25 = .ok (.ldc 80, 2) := by decide +kernel
theorem dX10_feed_27 : decode cX10_feed 27 = .ok (.ireturn, 1) := by decide +kernel
theorem dX10_feed_28 : decode cX10_feed 28 = .ok (.aload_n 0, 1) := by decide +kernel
theorem dX10_feed_29 : decode cX10_feed 29 = .ok (.getfield 16, 3) := by decide +kernel
theorem dX10_feed_32 : decode cX10_feed 32 = .ok (.aload_n 0, 1) := by decide +kernel
theorem dX10_feed_33 : decode cX10_feed 33 = .ok (.getfield 77, 3) := by decide +kernel
theorem dX10_feed_36 : decode cX10_feed 36 = .ok (.iload_n 1, 1) := by decide +kernel
theorem dX10_feed_37 : decode cX10_feed 37 = .ok (.iastore, 1) := by decide +kernel
theorem dX10_feed_38 : decode cX10_feed 38 = .ok (.aload_n 0, 1) := by decide +kernel
theorem dX10_feed_39 : decode cX10_feed 39 = .ok (.dup, 1) := by decide +kernel
theorem dX10_feed_40 : decode cX10_feed 40 = .ok (.getfield 77, 3) := by decide +kernel
theorem dX10_feed_43 : decode cX10_feed 43 = .ok (.iconst 1, 1) := by decide +kernel
theorem dX10_feed_44 : decode cX10_feed 44 = .ok (.iadd, 1) := by decide +kernel
theorem dX10_feed_45 : decode cX10_feed 45 = .ok (.putfield 77, 3) := by decide +kernel
theorem dX10_feed_48 : decode cX10_feed 48 = .ok (.aload_n 0, 1) := by decide +kernel
theorem dX10_feed_49 : decode cX10_feed 49 = .ok (.getfield 77, 3) := by decide +kernel
theorem dX10_feed_52 : decode cX10_feed 52 = .ok (.ireturn, 1) := by decide +kernel
theorem dX10_here_0 : decode cX10_here 0 = .ok (.aload_n 0, 1) := by decide +kernel
theorem dX10_here_1 : decode cX10_here 1 = .ok (.getfield 81, 3) := by decide +kernel
theorem dX10_here_4 : decode cX10_here 4 = .ok (.aload_n 0, 1) := by decide +kernel
theorem dX10_here_5 : decode cX10_here 5 = .ok (.getfield 77, 3) := by decide +kernel
theorem dX10_here_8 : decode cX10_here 8 = .ok (.if_icmp .ge 30, 3) := by decide +kernel
theorem dX10_here_11 : decode cX10_here 11 = .ok (.aload_n 0, 1) := by decide +kernel
theorem dX10_here_12 : decode cX10_here 12 = .ok (.getfield 16, 3) := by decide +kernel
theorem dX10_here_15 : decode cX10_here 15 = .ok (.aload_n 0, 1) := by decide +kernel
theorem dX10_here_16 : decode cX10_here 16 = .ok (.getfield 81, 3) := by decide +kernel
theorem dX10_here_19 : decode cX10_here 19 = .ok (.iaload, 1) := by decide +kernel
theorem dX10_here_20 : decode cX10_here 20 = .ok (.bipush 32, 2) := by decide +kernel
theorem dX10_here_22 : decode cX10_here 22 = .ok (.if_icmp .ne 16, 3) := by decide +kernel
theorem dX10_here_25 : decode cX10_here 25 = .ok (.aload_n 0, 1) := by decide +kernel
theorem dX10_here_26 : decode cX10_here 26 = .ok (.dup, 1) := by decide +kernel
theorem dX10_here_27 : decode cX10_here 27 = .ok (.getfield 81, 3) := by decide +kernel
theorem dX10_here_30 : decode cX10_here 30 = .ok (.iconst 1, 1) := by decide +kernel
theorem dX10_here_31 : decode cX10_here 31 = .ok (.iadd, 1) := by decide +kernel
theorem dX10_here_32 : decode cX10_here 32 = .ok (.putfield 81, 3) := by decide +kernel
theorem dX10_here_35 : decode cX10_here 35 = .ok (.goto (-35), 3) := by decide +kernel
theorem dX10_here_38 : decode cX10_here 38 = .ok (.aload_n 0, 1) := by decide +kernel
theorem dX10_here_39 : decode cX10_here 39 = .ok (.getfield 81, 3) := by decide +kernel
theorem dX10_here_42 : decode cX10_here 42 = .ok (.aload_n 0, 1) := by decide +kernel
theorem dX10_here_43 : decode cX10_here 43 = .ok (.getfield 77, 3) := by decide +kernel
theorem dX10_here_46 : decode cX10_here 46 = .ok (.if_icmp .ge 15, 3) := by decide +kernel
theorem dX10_here_49 : decode cX10_here 49 = .ok (.aload_n 0, 1) := by decide +kernel
theorem dX10_here_50 : decode cX10_here 50 = .ok (.getfield 16, 3) := by decide +kernel
theorem dX10_here_53 : decode cX10_here 53 = .ok (.aload_n 0, 1) := by decide +kernel
theorem dX10_here_54 : decode cX10_here 54 = .ok (.getfield 81, 3) := by decide +kernel
theorem dX10_here_57 : decode cX10_here 57 = .ok (.iaload, 1) := by decide +kernel
theorem dX10_here_58 : decode cX10_here 58 = .ok (.goto 4, 3) := by decide +kernel
theorem dX10_here_61 : decode cX10_here 61 = .ok (.iconst (-1), 1) := by decide +kernel
theorem dX10_here_62 : decode cX10_here 62 = .ok (.ireturn, 1) := by decide +kernel
theorem dX10_fails_0 : decode cX10_fails 0 = .ok (.aload_n 0, 1) := by decide +kernel
theorem dX10_fails_1 : decode cX10_fails 1 = .ok (.iload_n 2, 1) := by decide +kernel
theorem dX10_fails_2 : decode cX10_fails 2 = .ok (.putfield 19, 3) := by decide +kernel
theorem dX10_fails_5 : decode cX10_fails 5 = .ok (.iload_n 1, 1) := by decide +kernel
theorem dX10_fails_6 : decode cX10_fails 6 = .ok (.ireturn, 1) := by decide +kernel
theorem dX10_takeNumber_0 : decode cX10_takeNumber 0 = .ok (.aload_n 0, 1) := by decide +kernel
theorem dX10_takeNumber_1 : decode cX10_takeNumber 1 = .ok (.invokevirtual 84, 3) := by decide +kernel
theorem dX10_takeNumber_4 : decode cX10_takeNumber 4 = .ok (.istore_n 3, 1) := by decide +kernel
theorem dX10_takeNumber_5 : decode cX10_takeNumber 5 = .ok (.iload_n 3, 1) := by decide +kernel
theorem dX10_takeNumber_6 : decode cX10_takeNumber 6 = .ok (.i2l, 1) := by decide +kernel
theorem dX10_takeNumber_7 : decode cX10_takeNumber 7 = .ok (.ldc2_w 88, 3) := by decide +kernel
theorem dX10_takeNumber_10 : decode cX10_takeNumber 10 = .ok (.ldc2_w 90, 3) := by decide +kernel
theorem dX10_takeNumber_13 : decode cX10_takeNumber 13 = .ok (.invokestatic 66, 3) := by decide +kernel
theorem dX10_takeNumber_16 : decode cX10_takeNumber 16 = .ok (.ifCond .ne 13, 3) := by decide +kernel
theorem dX10_takeNumber_19 : decode cX10_takeNumber 19 = .ok (.aload_n 0, 1) := by decide +kernel
theorem dX10_takeNumber_20 : decode cX10_takeNumber 20 = .ok (.iconst 1, 1) := by decide +kernel
theorem dX10_takeNumber_21 : decode cX10_takeNumber 21 = .ok (.aload_n 0, 1) := by decide +kernel
theorem dX10_takeNumber_22 : decode cX10_takeNumber 22 = .ok (.getfield 81, 3) := by decide +kernel
theorem dX10_takeNumber_25 : decode cX10_takeNumber 25 = .ok (.invokevirtual 92, 3) := by decide +kernel
theorem dX10_takeNumber_28 : decode cX10_takeNumber 28 = .ok (.ireturn, 1) := by decide +kernel
theorem dX10_takeNumber_29 : decode cX10_takeNumber 29 = .ok (.aload_n 0, 1) := by decide +kernel
theorem dX10_takeNumber_30 : decode cX10_takeNumber 30 = .ok (.aload_n 0, 1) := by decide +kernel
theorem dX10_takeNumber_31 : decode cX10_takeNumber 31 = .ok (.getfield 81, 3) := by decide +kernel
theorem dX10_takeNumber_34 : decode cX10_takeNumber 34 = .ok (.putfield 96, 3) := by decide +kernel
theorem dX10_takeNumber_37 : decode cX10_takeNumber 37 = .ok (.aload_n 0, 1) := by decide +kernel
theorem dX10_takeNumber_38 : decode cX10_takeNumber 38 = .ok (.iconst 0, 1) := by decide +kernel
theorem dX10_takeNumber_39 : decode cX10_takeNumber 39 = .ok (.putfield 99, 3) := by decide +kernel
theorem dX10_takeNumber_42 : decode cX10_takeNumber 42 = .ok (.aload_n 0, 1) := by decide +kernel
theorem dX10_takeNumber_43 : decode cX10_takeNumber 43 = .ok (.getfield 81, 3) := by decide +kernel
theorem dX10_takeNumber_46 : decode cX10_takeNumber 46 = .ok (.aload_n 0, 1) := by decide +kernel
theorem dX10_takeNumber_47 : decode cX10_takeNumber 47 = .ok (.getfield 77, 3) := by decide +kernel
theorem dX10_takeNumber_50 : decode cX10_takeNumber 50 = .ok (.if_icmp .ge 79, 3) := by decide +kernel
theorem dX10_takeNumber_53 : decode cX10_takeNumber 53 = .ok (.aload_n 0, 1) := by decide +kernel
theorem dX10_takeNumber_54 : decode cX10_takeNumber 54 = .ok (.getfield 16, 3) := by decide +kernel
theorem dX10_takeNumber_57 : decode cX10_takeNumber 57 = .ok (.aload_n 0, 1) := by decide +kernel
theorem dX10_takeNumber_58 : decode cX10_takeNumber 58 = .ok (.getfield 81, 3) := by decide +kernel
theorem dX10_takeNumber_61 : decode cX10_takeNumber 61 = .ok (.iaload, 1) := by decide +kernel
theorem dX10_takeNumber_62 : decode cX10_takeNumber 62 = .ok (.i2l, 1) := by decide +kernel
theorem dX10_takeNumber_63 : decode cX10_takeNumber 63 = .ok (.ldc2_w 88, 3) := by decide +kernel
theorem dX10_takeNumber_66 : decode cX10_takeNumber 66 = .ok (.ldc2_w 90, 3) := by decide +kernel
theorem dX10_takeNumber_69 : decode cX10_takeNumber 69 = .ok (.invokestatic 66, 3) := by decide +kernel
theorem dX10_takeNumber_72 : decode cX10_takeNumber 72 = .ok (.ifCond .eq 57, 3) := by decide +kernel
theorem dX10_takeNumber_75 : decode cX10_takeNumber 75 = .ok (.aload_n 0, 1) := by decide +kernel
theorem dX10_takeNumber_76 : decode cX10_takeNumber 76 = .ok (.aload_n 0, 1) := by decide +kernel
theorem dX10_takeNumber_77 : decode cX10_takeNumber 77 = .ok (.getfield 99, 3) := by decide +kernel
theorem dX10_takeNumber_80 : decode cX10_takeNumber 80 = .ok (.sipush 10000, 3) := by decide +kernel
theorem dX10_takeNumber_83 : decode cX10_takeNumber 83 = .ok (.if_icmp .le 10, 3) := by decide +kernel
theorem dX10_takeNumber_86 : decode cX10_takeNumber 86 = .ok (.aload_n 0, 1) := by decide +kernel
theorem dX10_takeNumber_87 : decode cX10_takeNumber 87 = .ok (.getfield 99, 3) := by decide +kernel
theorem dX10_takeNumber_90 : decode cX10_takeNumber 90 = .ok (.goto 23, 3) := by decide +kernel
theorem dX10_takeNumber_93 : decode cX10_takeNumber 93 = .ok (.bipush 10, 2) := by decide +kernel
theorem dX10_takeNumber_95 : decode cX10_takeNumber 95 = .ok (.aload_n 0, 1) := by decide +kernel
theorem dX10_takeNumber_96 : decode cX10_takeNumber 96 = .ok (.getfield 99, 3) := by decide +kernel
theorem dX10_takeNumber_99 : decode cX10_takeNumber 99 = .ok (.imul, 1) := by decide +kernel
theorem dX10_takeNumber_100 : decode cX10_takeNumber 100 = .ok (.aload_n 0, 1) := by decide +kernel
theorem dX10_takeNumber_101 : decode cX10_takeNumber 101 = .ok (.getfield 16, 3) := by decide +kernel
theorem dX10_takeNumber_104 : decode cX10_takeNumber 104 = .ok (.aload_n 0, 1) := by decide +kernel
theorem dX10_takeNumber_105 : decode cX10_takeNumber 105 = .ok (.getfield 81, 3) := by decide +kernel
theorem dX10_takeNumber_108 : decode cX10_takeNumber 108 = .ok (.iaload, 1) := by decide +kernel
theorem dX10_takeNumber_109 : decode cX10_takeNumber 109 = .ok (.iadd, 1) := by decide +kernel
theorem dX10_takeNumber_110 : decode cX10_takeNumber 110 = .ok (.bipush 48, 2) := by decide +kernel
theorem dX10_takeNumber_112 : decode cX10_takeNumber 112 = .ok (.isub, 1) := by decide +kernel
theorem dX10_takeNumber_113 : decode cX10_takeNumber 113 = .ok (.putfield 99, 3) := by decide +kernel
theorem dX10_takeNumber_116 : decode cX10_takeNumber 116 = .ok (.aload_n 0, 1) := by decide +kernel
theorem dX10_takeNumber_117 : decode cX10_takeNumber 117 = .ok (.dup, 1) := by decide +kernel
theorem dX10_takeNumber_118 : decode cX10_takeNumber 118 = .ok (.getfield 81, 3) := by decide +kernel
theorem dX10_takeNumber_121 : decode cX10_takeNumber 121 = .ok (.iconst 1, 1) := by decide +kernel
theorem dX10_takeNumber_122 : decode cX10_takeNumber 122 = .ok (.iadd, 1) := by decide +kernel
theorem dX10_takeNumber_123 : decode cX10_takeNumber 123 = .ok (.putfield 81, 3) := by decide +kernel
theorem dX10_takeNumber_126 : decode cX10_takeNumber 126 = .ok (.goto (-84), 3) := by decide +kernel
theorem dX10_takeNumber_129 : decode cX10_takeNumber 129 = .ok (.aload_n 0, 1) := by decide +kernel
theorem dX10_takeNumber_130 : decode cX10_takeNumber 130 = .ok (.getfield 81, 3) := by decide +kernel
theorem dX10_takeNumber_133 : decode cX10_takeNumber 133 = .ok (.aload_n 0, 1) := by decide +kernel
theorem dX10_takeNumber_134 : decode cX10_takeNumber 134 = .ok (.getfield 96, 3) := by decide +kernel
theorem dX10_takeNumber_137 : decode cX10_takeNumber 137 = .ok (.isub, 1) := by decide +kernel
theorem dX10_takeNumber_138 : decode cX10_takeNumber 138 = .ok (.iconst 3, 1) := by decide +kernel
theorem dX10_takeNumber_139 : decode cX10_takeNumber 139 = .ok (.if_icmp .gt 18, 3) := by decide +kernel
theorem dX10_takeNumber_142 : decode cX10_takeNumber 142 = .ok (.aload_n 0, 1) := by decide +kernel
theorem dX10_takeNumber_143 : decode cX10_takeNumber 143 = .ok (.getfield 99, 3) := by decide +kernel
theorem dX10_takeNumber_146 : decode cX10_takeNumber 146 = .ok (.i2l, 1) := by decide +kernel
theorem dX10_takeNumber_147 : decode cX10_takeNumber 147 = .ok (.iload_n 1, 1) := by decide +kernel
theorem dX10_takeNumber_148 : decode cX10_takeNumber 148 = .ok (.i2l, 1) := by decide +kernel
theorem dX10_takeNumber_149 : decode cX10_takeNumber 149 = .ok (.iload_n 2, 1) := by decide +kernel
theorem dX10_takeNumber_150 : decode cX10_takeNumber 150 = .ok (.i2l, 1) := by decide +kernel
theorem dX10_takeNumber_151 : decode cX10_takeNumber 151 = .ok (.invokestatic 66, 3) := by decide +kernel
theorem dX10_takeNumber_154 : decode cX10_takeNumber 154 = .ok (.ifCond .ne 15, 3) := by decide +kernel
theorem dX10_takeNumber_157 : decode cX10_takeNumber 157 = .ok (.aload_n 0, 1) := by decide +kernel
theorem dX10_takeNumber_158 : decode cX10_takeNumber 158 = .ok (.iconst 2, 1) := by decide +kernel
theorem dX10_takeNumber_159 : decode cX10_takeNumber 159 = .ok (.aload_n 0, 1) := by decide +kernel
theorem dX10_takeNumber_160 : decode cX10_takeNumber 160 = .ok (.getfield 96, 3) := by decide +kernel
theorem dX10_takeNumber_163 : decode cX10_takeNumber 163 = .ok (.invokevirtual 92, 3) := by decide +kernel
theorem dX10_takeNumber_166 : decode cX10_takeNumber 166 = .ok (.goto 4, 3) := by decide +kernel
theorem dX10_takeNumber_169 : decode cX10_takeNumber 169 = .ok (.iconst 0, 1) := by decide +kernel
theorem dX10_takeNumber_170 : decode cX10_takeNumber 170 = .ok (.ireturn, 1) := by decide +kernel
theorem dX10_into_0 : decode cX10_into 0 = .ok (.aload_n 0, 1) := by decide +kernel
theorem dX10_into_1 : decode cX10_into 1 = .ok (.iload_n 3, 1) := by decide +kernel
theorem dX10_into_2 : decode cX10_into 2 = .ok (.iload 4, 2) := by decide +kernel
theorem dX10_into_4 : decode cX10_into 4 = .ok (.invokevirtual 102, 3) := by decide +kernel
theorem dX10_into_7 : decode cX10_into 7 = .ok (.istore 5, 2) := by decide +kernel
theorem dX10_into_9 : decode cX10_into 9 = .ok (.aload_n 1, 1) := by decide +kernel
theorem dX10_into_10 : decode cX10_into 10 = .ok (.iload_n 2, 1) := by decide +kernel
theorem dX10_into_11 : decode cX10_into 11 = .ok (.aload_n 0, 1) := by decide +kernel
theorem dX10_into_12 : decode cX10_into 12 = .ok (.getfield 99, 3) := by decide +kernel
theorem dX10_into_15 : decode cX10_into 15 = .ok (.iastore, 1) := by decide +kernel
theorem dX10_into_16 : decode cX10_into 16 = .ok (.iload 5, 2) := by decide +kernel
theorem dX10_into_18 : decode cX10_into 18 = .ok (.ireturn, 1) := by decide +kernel
theorem dX10_takePerson_0 : decode cX10_takePerson 0 = .ok (.aload_n 0, 1) := by decide +kernel
theorem dX10_takePerson_1 : decode cX10_takePerson 1 = .ok (.getfield 105, 3) := by decide +kernel
theorem dX10_takePerson_4 : decode cX10_takePerson 4 = .ok (.istore_n 1, 1) := by decide +kernel
theorem dX10_takePerson_5 : decode cX10_takePerson 5 = .ok (.aload_n 0, 1) := by decide +kernel
theorem dX10_takePerson_6 : decode cX10_takePerson 6 = .ok (.dup, 1) := by decide +kernel
theorem dX10_takePerson_7 : decode cX10_takePerson 7 = .ok (.getfield 105, 3) := by decide +kernel
theorem dX10_takePerson_10 : decode cX10_takePerson 10 = .ok (.iconst 1, 1) := by decide +kernel
theorem dX10_takePerson_11 : decode cX10_takePerson 11 = .ok (.iadd, 1) := by decide +kernel
theorem dX10_takePerson_12 : decode cX10_takePerson 12 = .ok (.putfield 105, 3) := by decide +kernel
theorem dX10_takePerson_15 : decode cX10_takePerson 15 = .ok (.aload_n 0, 1) := by decide +kernel
theorem dX10_takePerson_16 : decode cX10_takePerson 16 = .ok (.aload_n 0, 1) := by decide +kernel
theorem dX10_takePerson_17 : decode cX10_takePerson 17 = .ok (.getfield 23, 3) := by decide +kernel
theorem dX10_takePerson_20 : decode cX10_takePerson 20 = .ok (.iload_n 1, 1) := by decide +kernel
theorem dX10_takePerson_21 : decode cX10_takePerson 21 = .ok (.iconst 0, 1) := by decide +kernel
theorem dX10_takePerson_22 : decode cX10_takePerson 22 = .ok (.sipush 255, 3) := by decide +kernel
theorem dX10_takePerson_25 : decode cX10_takePerson 25 = .ok (.invokevirtual 108, 3) := by decide +kernel
theorem dX10_takePerson_28 : decode cX10_takePerson 28 = .ok (.istore_n 2, 1) := by decide +kernel
theorem dX10_takePerson_29 : decode cX10_takePerson 29 = .ok (.iload_n 2, 1) := by decide +kernel
theorem dX10_takePerson_30 : decode cX10_takePerson 30 = .ok (.ifCond .le 7, 3) := by decide +kernel
theorem dX10_takePerson_33 : decode cX10_takePerson 33 = .ok (.iload_n 2, 1) := by decide +kernel
theorem dX10_takePerson_34 : decode cX10_takePerson 34 = .ok (.goto 15, 3) := by decide +kernel
theorem dX10_takePerson_37 : decode cX10_takePerson 37 = .ok (.aload_n 0, 1) := by decide +kernel
theorem dX10_takePerson_38 : decode cX10_takePerson 38 = .ok (.aload_n 0, 1) := by decide +kernel
theorem dX10_takePerson_39 : decode cX10_takePerson 39 = .ok (.getfield 26, 3) := by decide +kernel
theorem dX10_takePerson_42 : decode cX10_takePerson 42 = .ok (.iload_n 1, 1) := by decide +kernel
theorem dX10_takePerson_43 : decode cX10_takePerson 43 = .ok (.iconst 0, 1) := by decide +kernel
theorem dX10_takePerson_44 : decode cX10_takePerson 44 = .ok (.bipush 7, 2) := by decide +kernel
theorem dX10_takePerson_46 : decode cX10_takePerson 46 = .ok (.invokevirtual 108, 3) := by decide +kernel
theorem dX10_takePerson_49 : decode cX10_takePerson 49 = .ok (.ireturn, 1) := by decide +kernel
theorem dX10_takeKnows_0 : decode cX10_takeKnows 0 = .ok (.aload_n 0, 1) := by decide +kernel
theorem dX10_takeKnows_1 : decode cX10_takeKnows 1 = .ok (.iconst 0, 1) := by decide +kernel
theorem dX10_takeKnows_2 : decode cX10_takeKnows 2 = .ok (.aload_n 0, 1) := by decide +kernel
theorem dX10_takeKnows_3 : decode cX10_takeKnows 3 = .ok (.getfield 105, 3) := by decide +kernel
theorem dX10_takeKnows_6 : decode cX10_takeKnows 6 = .ok (.iconst 1, 1) := by decide +kernel
theorem dX10_takeKnows_7 : decode cX10_takeKnows 7 = .ok (.isub, 1) := by decide +kernel
theorem dX10_takeKnows_8 : decode cX10_takeKnows 8 = .ok (.invokevirtual 102, 3) := by decide +kernel
theorem dX10_takeKnows_11 : decode cX10_takeKnows 11 = .ok (.istore_n 1, 1) := by decide +kernel
theorem dX10_takeKnows_12 : decode cX10_takeKnows 12 = .ok (.aload_n 0, 1) := by decide +kernel
theorem dX10_takeKnows_13 : decode cX10_takeKnows 13 = .ok (.getfield 99, 3) := by decide +kernel
theorem dX10_takeKnows_16 : decode cX10_takeKnows 16 = .ok (.istore_n 2, 1) := by decide +kernel
theorem dX10_takeKnows_17 : decode cX10_takeKnows 17 = .ok (.iload_n 1, 1) := by decide +kernel
theorem dX10_takeKnows_18 : decode cX10_takeKnows 18 = .ok (.ifCond .le 7, 3) := by decide +kernel
theorem dX10_takeKnows_21 : decode cX10_takeKnows 21 = .ok (.iload_n 1, 1) := by decide +kernel
theorem dX10_takeKnows_22 : decode cX10_takeKnows 22 = .ok (.goto 14, 3) := by decide +kernel
theorem dX10_takeKnows_25 : decode cX10_takeKnows 25 = .ok (.aload_n 0, 1) := by decide +kernel
theorem dX10_takeKnows_26 : decode cX10_takeKnows 26 = .ok (.iconst 0, 1) := by decide +kernel
theorem dX10_takeKnows_27 : decode cX10_takeKnows 27 = .ok (.aload_n 0, 1) := by decide +kernel
theorem dX10_takeKnows_28 : decode cX10_takeKnows 28 = .ok (.getfield 105, 3) := by decide +kernel
theorem dX10_takeKnows_31 : decode cX10_takeKnows 31 = .ok (.iconst 1, 1) := by decide +kernel
theorem dX10_takeKnows_32 : decode cX10_takeKnows 32 = .ok (.isub, 1) := by decide +kernel
theorem dX10_takeKnows_33 : decode cX10_takeKnows 33 = .ok (.invokevirtual 102, 3) := by decide +kernel
theorem dX10_takeKnows_36 : decode cX10_takeKnows 36 = .ok (.istore_n 1, 1) := by decide +kernel
theorem dX10_takeKnows_37 : decode cX10_takeKnows 37 = .ok (.iload_n 1, 1) := by decide +kernel
theorem dX10_takeKnows_38 : decode cX10_takeKnows 38 = .ok (.ifCond .ne 38, 3) := by decide +kernel
theorem dX10_takeKnows_41 : decode cX10_takeKnows 41 = .ok (.aload_n 0, 1) := by decide +kernel
theorem dX10_takeKnows_42 : decode cX10_takeKnows 42 = .ok (.getfield 99, 3) := by decide +kernel
theorem dX10_takeKnows_45 : decode cX10_takeKnows 45 = .ok (.iload_n 2, 1) := by decide +kernel
theorem dX10_takeKnows_46 : decode cX10_takeKnows 46 = .ok (.if_icmp .eq 20, 3) := by decide +kernel
theorem dX10_takeKnows_49 : decode cX10_takeKnows 49 = .ok (.aload_n 0, 1) := by decide +kernel
theorem dX10_takeKnows_50 : decode cX10_takeKnows 50 = .ok (.getfield 29, 3) := by decide +kernel
theorem dX10_takeKnows_53 : decode cX10_takeKnows 53 = .ok (.bipush 8, 2) := by decide +kernel
theorem dX10_takeKnows_55 : decode cX10_takeKnows 55 = .ok (.iload_n 2, 1) := by decide +kernel
theorem dX10_takeKnows_56 : decode cX10_takeKnows 56 = .ok (.imul, 1) := by decide +kernel
theorem dX10_takeKnows_57 : decode cX10_takeKnows 57 = .ok (.aload_n 0, 1) := by decide +kernel
theorem dX10_takeKnows_58 : decode cX10_takeKnows 58 = .ok (.getfield 99, 3) := by decide +kernel
theorem dX10_takeKnows_61 : decode cX10_takeKnows 61 = .ok (.iadd, 1) := by decide +kernel
theorem dX10_takeKnows_62 : decode cX10_takeKnows 62 = .ok (.baload, 1) := by decide +kernel
theorem dX10_takeKnows_63 : decode cX10_takeKnows 63 = .ok (.ifCond .eq 13, 3) := by decide +kernel
theorem dX10_takeKnows_66 : decode cX10_takeKnows 66 = .ok (.aload_n 0, 1) := by decide +kernel
theorem dX10_takeKnows_67 : decode cX10_takeKnows 67 = .ok (.iconst 4, 1) := by decide +kernel
theorem dX10_takeKnows_68 : decode cX10_takeKnows 68 = .ok (.aload_n 0, 1) := by decide +kernel
theorem dX10_takeKnows_69 : decode cX10_takeKnows 69 = .ok (.getfield 96, 3) := by decide +kernel
theorem dX10_takeKnows_72 : decode cX10_takeKnows 72 = .ok (.invokevirtual 92, 3) := by decide +kernel
theorem dX10_takeKnows_75 : decode cX10_takeKnows 75 = .ok (.ireturn, 1) := by decide +kernel
theorem dX10_takeKnows_76 : decode cX10_takeKnows 76 = .ok (.iload_n 1, 1) := by decide +kernel
theorem dX10_takeKnows_77 : decode cX10_takeKnows 77 = .ok (.ifCond .ne 18, 3) := by decide +kernel
theorem dX10_takeKnows_80 : decode cX10_takeKnows 80 = .ok (.aload_n 0, 1) := by decide +kernel
theorem dX10_takeKnows_81 : decode cX10_takeKnows 81 = .ok (.getfield 29, 3) := by decide +kernel
theorem dX10_takeKnows_84 : decode cX10_takeKnows 84 = .ok (.bipush 8, 2) := by decide +kernel
theorem dX10_takeKnows_86 : decode cX10_takeKnows 86 = .ok (.iload_n 2, 1) := by decide +kernel
theorem dX10_takeKnows_87 : decode cX10_takeKnows 87 = .ok (.imul, 1) := by decide +kernel
theorem dX10_takeKnows_88 : decode cX10_takeKnows 88 = .ok (.aload_n 0, 1) := by decide +kernel
theorem dX10_takeKnows_89 : decode cX10_takeKnows 89 = .ok (.getfield 99, 3) := by decide +kernel
theorem dX10_takeKnows_92 : decode cX10_takeKnows 92 = .ok (.iadd, 1) := by decide +kernel
theorem dX10_takeKnows_93 : decode cX10_takeKnows 93 = .ok (.iconst 1, 1) := by decide +kernel
theorem dX10_takeKnows_94 : decode cX10_takeKnows 94 = .ok (.bastore, 1) := by decide +kernel
theorem dX10_takeKnows_95 : decode cX10_takeKnows 95 = .ok (.iload_n 1, 1) := by decide +kernel
theorem dX10_takeKnows_96 : decode cX10_takeKnows 96 = .ok (.ireturn, 1) := by decide +kernel
theorem dX10_takeClause_0 : decode cX10_takeClause 0 = .ok (.aload_n 0, 1) := by decide +kernel
theorem dX10_takeClause_1 : decode cX10_takeClause 1 = .ok (.invokevirtual 84, 3) := by decide +kernel
theorem dX10_takeClause_4 : decode cX10_takeClause 4 = .ok (.istore_n 1, 1) := by decide +kernel
theorem dX10_takeClause_5 : decode cX10_takeClause 5 = .ok (.iload_n 1, 1) := by decide +kernel
theorem dX10_takeClause_6 : decode cX10_takeClause 6 = .ok (.bipush 112, 2) := by decide +kernel
theorem dX10_takeClause_8 : decode cX10_takeClause 8 = .ok (.if_icmp .eq 19, 3) := by decide +kernel
theorem dX10_takeClause_11 : decode cX10_takeClause 11 = .ok (.iload_n 1, 1) := by decide +kernel
theorem dX10_takeClause_12 : decode cX10_takeClause 12 = .ok (.bipush 107, 2) := by decide +kernel
theorem dX10_takeClause_14 : decode cX10_takeClause 14 = .ok (.if_icmp .eq 13, 3) := by decide +kernel
theorem dX10_takeClause_17 : decode cX10_takeClause 17 = .ok (.aload_n 0, 1) := by decide +kernel
theorem dX10_takeClause_18 : decode cX10_takeClause 18 = .ok (.iconst 1, 1) := by decide +kernel
theorem dX10_takeClause_19 : decode cX10_takeClause 19 = .ok (.aload_n 0, 1) := by decide +kernel
theorem dX10_takeClause_20 : decode cX10_takeClause 20 = .ok (.getfield 81, 3) := by decide +kernel
theorem dX10_takeClause_23 : decode cX10_takeClause 23 = .ok (.invokevirtual 92, 3) := by decide +kernel
theorem dX10_takeClause_26 : decode cX10_takeClause 26 = .ok (.ireturn, 1) := by decide +kernel
theorem dX10_takeClause_27 : decode cX10_takeClause 27 = .ok (.iload_n 1, 1) := by decide +kernel
theorem dX10_takeClause_28 : decode cX10_takeClause 28 = .ok (.bipush 112, 2) := by decide +kernel
theorem dX10_takeClause_30 : decode cX10_takeClause 30 = .ok (.if_icmp .ne 22, 3) := by decide +kernel
theorem dX10_takeClause_33 : decode cX10_takeClause 33 = .ok (.aload_n 0, 1) := by decide +kernel
theorem dX10_takeClause_34 : decode cX10_takeClause 34 = .ok (.getfield 105, 3) := by decide +kernel
theorem dX10_takeClause_37 : decode cX10_takeClause 37 = .ok (.bipush 8, 2) := by decide +kernel
theorem dX10_takeClause_39 : decode cX10_takeClause 39 = .ok (.if_icmp .ne 13, 3) := by decide +kernel
theorem dX10_takeClause_42 : decode cX10_takeClause 42 = .ok (.aload_n 0, 1) := by decide +kernel
theorem dX10_takeClause_43 : decode cX10_takeClause 43 = .ok (.iconst 3, 1) := by decide +kernel
theorem dX10_takeClause_44 : decode cX10_takeClause 44 = .ok (.aload_n 0, 1) := by decide +kernel
theorem dX10_takeClause_45 : decode cX10_takeClause 45 = .ok (.getfield 81, 3) := by decide +kernel
theorem dX10_takeClause_48 : decode cX10_takeClause 48 = .ok (.invokevirtual 92, 3) := by decide +kernel
theorem dX10_takeClause_51 : decode cX10_takeClause 51 = .ok (.ireturn, 1) := by decide +kernel
theorem dX10_takeClause_52 : decode cX10_takeClause 52 = .ok (.aload_n 0, 1) := by decide +kernel
theorem dX10_takeClause_53 : decode cX10_takeClause 53 = .ok (.dup, 1) := by decide +kernel
theorem dX10_takeClause_54 : decode cX10_takeClause 54 = .ok (.getfield 81, 3) := by decide +kernel
theorem dX10_takeClause_57 : decode cX10_takeClause 57 = .ok (.iconst 1, 1) := by decide +kernel
theorem dX10_takeClause_58 : decode cX10_takeClause 58 = .ok (.iadd, 1) := by decide +kernel
theorem dX10_takeClause_59 : decode cX10_takeClause 59 = .ok (.putfield 81, 3) := by decide +kernel
theorem dX10_takeClause_62 : decode cX10_takeClause 62 = .ok (.iload_n 1, 1) := by decide +kernel
theorem dX10_takeClause_63 : decode cX10_takeClause 63 = .ok (.bipush 112, 2) := by decide +kernel
theorem dX10_takeClause_65 : decode cX10_takeClause 65 = .ok (.if_icmp .ne 10, 3) := by decide +kernel
theorem dX10_takeClause_68 : decode cX10_takeClause 68 = .ok (.aload_n 0, 1) := by decide +kernel
theorem dX10_takeClause_69 : decode cX10_takeClause 69 = .ok (.invokevirtual 112, 3) := by decide +kernel
theorem dX10_takeClause_72 : decode cX10_takeClause 72 = .ok (.goto 7, 3) := by decide +kernel
theorem dX10_takeClause_75 : decode cX10_takeClause 75 = .ok (.aload_n 0, 1) := by decide +kernel
theorem dX10_takeClause_76 : decode cX10_takeClause 76 = .ok (.invokevirtual 115, 3) := by decide +kernel
theorem dX10_takeClause_79 : decode cX10_takeClause 79 = .ok (.istore_n 2, 1) := by decide +kernel
theorem dX10_takeClause_80 : decode cX10_takeClause 80 = .ok (.iload_n 2, 1) := by decide +kernel
theorem dX10_takeClause_81 : decode cX10_takeClause 81 = .ok (.ifCond .ne 22, 3) := by decide +kernel
theorem dX10_takeClause_84 : decode cX10_takeClause 84 = .ok (.aload_n 0, 1) := by decide +kernel
theorem dX10_takeClause_85 : decode cX10_takeClause 85 = .ok (.invokevirtual 84, 3) := by decide +kernel
theorem dX10_takeClause_88 : decode cX10_takeClause 88 = .ok (.bipush 59, 2) := by decide +kernel
theorem dX10_takeClause_90 : decode cX10_takeClause 90 = .ok (.if_icmp .eq 13, 3) := by decide +kernel
theorem dX10_takeClause_93 : decode cX10_takeClause 93 = .ok (.aload_n 0, 1) := by decide +kernel
theorem dX10_takeClause_94 : decode cX10_takeClause 94 = .ok (.iconst 1, 1) := by decide +kernel
theorem dX10_takeClause_95 : decode cX10_takeClause 95 = .ok (.aload_n 0, 1) := by decide +kernel
theorem dX10_takeClause_96 : decode cX10_takeClause 96 = .ok (.getfield 81, 3) := by decide +kernel
theorem dX10_takeClause_99 : decode cX10_takeClause 99 = .ok (.invokevirtual 92, 3) := by decide +kernel
theorem dX10_takeClause_102 : decode cX10_takeClause 102 = .ok (.ireturn, 1) := by decide +kernel
theorem dX10_takeClause_103 : decode cX10_takeClause 103 = .ok (.aload_n 0, 1) := by decide +kernel
theorem dX10_takeClause_104 : decode cX10_takeClause 104 = .ok (.dup, 1) := by decide +kernel
theorem dX10_takeClause_105 : decode cX10_takeClause 105 = .ok (.getfield 81, 3) := by decide +kernel
theorem dX10_takeClause_108 : decode cX10_takeClause 108 = .ok (.iconst 1, 1) := by decide +kernel
theorem dX10_takeClause_109 : decode cX10_takeClause 109 = .ok (.iadd, 1) := by decide +kernel
theorem dX10_takeClause_110 : decode cX10_takeClause 110 = .ok (.putfield 81, 3) := by decide +kernel
theorem dX10_takeClause_113 : decode cX10_takeClause 113 = .ok (.iload_n 2, 1) := by decide +kernel
theorem dX10_takeClause_114 : decode cX10_takeClause 114 = .ok (.ireturn, 1) := by decide +kernel
theorem dX10_takeRead_0 : decode cX10_takeRead 0 = .ok (.aload_n 0, 1) := by decide +kernel
theorem dX10_takeRead_1 : decode cX10_takeRead 1 = .ok (.aload_n 0, 1) := by decide +kernel
theorem dX10_takeRead_2 : decode cX10_takeRead 2 = .ok (.getfield 105, 3) := by decide +kernel
theorem dX10_takeRead_5 : decode cX10_takeRead 5 = .ok (.putfield 63, 3) := by decide +kernel
theorem dX10_takeRead_8 : decode cX10_takeRead 8 = .ok (.iconst 0, 1) := by decide +kernel
theorem dX10_takeRead_9 : decode cX10_takeRead 9 = .ok (.istore_n 1, 1) := by decide +kernel
theorem dX10_takeRead_10 : decode cX10_takeRead 10 = .ok (.iload_n 1, 1) := by decide +kernel
theorem dX10_takeRead_11 : decode cX10_takeRead 11 = .ok (.bipush 8, 2) := by decide +kernel
theorem dX10_takeRead_13 : decode cX10_takeRead 13 = .ok (.if_icmp .ge 81, 3) := by decide +kernel
theorem dX10_takeRead_16 : decode cX10_takeRead 16 = .ok (.iload_n 1, 1) := by decide +kernel
theorem dX10_takeRead_17 : decode cX10_takeRead 17 = .ok (.aload_n 0, 1) := by decide +kernel
theorem dX10_takeRead_18 : decode cX10_takeRead 18 = .ok (.getfield 63, 3) := by decide +kernel
theorem dX10_takeRead_21 : decode cX10_takeRead 21 = .ok (.if_icmp .ge 7, 3) := by decide +kernel
theorem dX10_takeRead_24 : decode cX10_takeRead 24 = .ok (.iconst 1, 1) := by decide +kernel
theorem dX10_takeRead_25 : decode cX10_takeRead 25 = .ok (.goto 4, 3) := by decide +kernel
theorem dX10_takeRead_28 : decode cX10_takeRead 28 = .ok (.iconst 0, 1) := by decide +kernel
theorem dX10_takeRead_29 : decode cX10_takeRead 29 = .ok (.istore_n 2, 1) := by decide +kernel
theorem dX10_takeRead_30 : decode cX10_takeRead 30 = .ok (.aload_n 0, 1) := by decide +kernel
theorem dX10_takeRead_31 : decode cX10_takeRead 31 = .ok (.getfield 13, 3) := by decide +kernel
theorem dX10_takeRead_34 : decode cX10_takeRead 34 = .ok (.iload_n 1, 1) := by decide +kernel
theorem dX10_takeRead_35 : decode cX10_takeRead 35 = .ok (.iload_n 2, 1) := by decide +kernel
theorem dX10_takeRead_36 : decode cX10_takeRead 36 = .ok (.ifCond .eq 12, 3) := by decide +kernel
theorem dX10_takeRead_39 : decode cX10_takeRead 39 = .ok (.aload_n 0, 1) := by decide +kernel
theorem dX10_takeRead_40 : decode cX10_takeRead 40 = .ok (.getfield 23, 3) := by decide +kernel
theorem dX10_takeRead_43 : decode cX10_takeRead 43 = .ok (.iload_n 1, 1) := by decide +kernel
theorem dX10_takeRead_44 : decode cX10_takeRead 44 = .ok (.iaload, 1) := by decide +kernel
theorem dX10_takeRead_45 : decode cX10_takeRead 45 = .ok (.goto 4, 3) := by decide +kernel
theorem dX10_takeRead_48 : decode cX10_takeRead 48 = .ok (.iconst 0, 1) := by decide +kernel
theorem dX10_takeRead_49 : decode cX10_takeRead 49 = .ok (.iastore, 1) := by decide +kernel
theorem dX10_takeRead_50 : decode cX10_takeRead 50 = .ok (.aload_n 0, 1) := by decide +kernel
theorem dX10_takeRead_51 : decode cX10_takeRead 51 = .ok (.getfield 13, 3) := by decide +kernel
theorem dX10_takeRead_54 : decode cX10_takeRead 54 = .ok (.bipush 8, 2) := by decide +kernel
theorem dX10_takeRead_56 : decode cX10_takeRead 56 = .ok (.iload_n 1, 1) := by decide +kernel
theorem dX10_takeRead_57 : decode cX10_takeRead 57 = .ok (.iadd, 1) := by decide +kernel
theorem dX10_takeRead_58 : decode cX10_takeRead 58 = .ok (.iload_n 2, 1) := by decide +kernel
theorem dX10_takeRead_59 : decode cX10_takeRead 59 = .ok (.ifCond .eq 7, 3) := by decide +kernel
theorem dX10_takeRead_62 : decode cX10_takeRead 62 = .ok (.iload_n 1, 1) := by decide +kernel
theorem dX10_takeRead_63 : decode cX10_takeRead 63 = .ok (.goto 4, 3) := by decide +kernel
theorem dX10_takeRead_66 : decode cX10_takeRead 66 = .ok (.iconst 0, 1) := by decide +kernel
theorem dX10_takeRead_67 : decode cX10_takeRead 67 = .ok (.iastore, 1) := by decide +kernel
theorem dX10_takeRead_68 : decode cX10_takeRead 68 = .ok (.aload_n 0, 1) := by decide +kernel
theorem dX10_takeRead_69 : decode cX10_takeRead 69 = .ok (.getfield 7, 3) := by decide +kernel
theorem dX10_takeRead_72 : decode cX10_takeRead 72 = .ok (.iload_n 1, 1) := by decide +kernel
theorem dX10_takeRead_73 : decode cX10_takeRead 73 = .ok (.iload_n 2, 1) := by decide +kernel
theorem dX10_takeRead_74 : decode cX10_takeRead 74 = .ok (.ifCond .eq 12, 3) := by decide +kernel
theorem dX10_takeRead_77 : decode cX10_takeRead 77 = .ok (.aload_n 0, 1) := by decide +kernel
theorem dX10_takeRead_78 : decode cX10_takeRead 78 = .ok (.getfield 26, 3) := by decide +kernel
theorem dX10_takeRead_81 : decode cX10_takeRead 81 = .ok (.iload_n 1, 1) := by decide +kernel
theorem dX10_takeRead_82 : decode cX10_takeRead 82 = .ok (.iaload, 1) := by decide +kernel
theorem dX10_takeRead_83 : decode cX10_takeRead 83 = .ok (.goto 4, 3) := by decide +kernel
theorem dX10_takeRead_86 : decode cX10_takeRead 86 = .ok (.iconst 0, 1) := by decide +kernel
theorem dX10_takeRead_87 : decode cX10_takeRead 87 = .ok (.iastore, 1) := by decide +kernel
theorem dX10_takeRead_88 : decode cX10_takeRead 88 = .ok (.iinc 1 1, 3) := by decide +kernel
theorem dX10_takeRead_91 : decode cX10_takeRead 91 = .ok (.goto (-81), 3) := by decide +kernel
theorem dX10_takeRead_94 : decode cX10_takeRead 94 = .ok (.iconst 0, 1) := by decide +kernel
theorem dX10_takeRead_95 : decode cX10_takeRead 95 = .ok (.istore_n 1, 1) := by decide +kernel
theorem dX10_takeRead_96 : decode cX10_takeRead 96 = .ok (.iload_n 1, 1) := by decide +kernel
theorem dX10_takeRead_97 : decode cX10_takeRead 97 = .ok (.bipush 64, 2) := by decide +kernel
theorem dX10_takeRead_99 : decode cX10_takeRead 99 = .ok (.if_icmp .ge 40, 3) := by decide +kernel
theorem dX10_takeRead_102 : decode cX10_takeRead 102 = .ok (.aload_n 0, 1) := by decide +kernel
theorem dX10_takeRead_103 : decode cX10_takeRead 103 = .ok (.getfield 13, 3) := by decide +kernel
theorem dX10_takeRead_106 : decode cX10_takeRead 106 = .ok (.bipush 16, 2) := by decide +kernel
theorem dX10_takeRead_108 : decode cX10_takeRead 108 = .ok (.iload_n 1, 1) := by decide +kernel
theorem dX10_takeRead_109 : decode cX10_takeRead 109 = .ok (.iadd, 1) := by decide +kernel
theorem dX10_takeRead_110 : decode cX10_takeRead 110 = .ok (.aload_n 0, 1) := by decide +kernel
theorem dX10_takeRead_111 : decode cX10_takeRead 111 = .ok (.getfield 29, 3) := by decide +kernel
theorem dX10_takeRead_114 : decode cX10_takeRead 114 = .ok (.iload_n 1, 1) := by decide +kernel
theorem dX10_takeRead_115 : decode cX10_takeRead 115 = .ok (.baload, 1) := by decide +kernel
theorem dX10_takeRead_116 : decode cX10_takeRead 116 = .ok (.ifCond .eq 15, 3) := by decide +kernel
theorem dX10_takeRead_119 : decode cX10_takeRead 119 = .ok (.aload_n 0, 1) := by decide +kernel
theorem dX10_takeRead_120 : decode cX10_takeRead 120 = .ok (.getfield 13, 3) := by decide +kernel
theorem dX10_takeRead_123 : decode cX10_takeRead 123 = .ok (.iload_n 1, 1) := by decide +kernel
theorem dX10_takeRead_124 : decode cX10_takeRead 124 = .ok (.bipush 8, 2) := by decide +kernel
theorem dX10_takeRead_126 : decode cX10_takeRead 126 = .ok (.irem, 1) := by decide +kernel
theorem dX10_takeRead_127 : decode cX10_takeRead 127 = .ok (.iaload, 1) := by decide +kernel
theorem dX10_takeRead_128 : decode cX10_takeRead 128 = .ok (.goto 4, 3) := by decide +kernel
theorem dX10_takeRead_131 : decode cX10_takeRead 131 = .ok (.iconst (-1), 1) := by decide +kernel
theorem dX10_takeRead_132 : decode cX10_takeRead 132 = .ok (.iastore, 1) := by decide +kernel
theorem dX10_takeRead_133 : decode cX10_takeRead 133 = .ok (.iinc 1 1, 3) := by decide +kernel
theorem dX10_takeRead_136 : decode cX10_takeRead 136 = .ok (.goto (-40), 3) := by decide +kernel
theorem dX10_takeRead_139 : decode cX10_takeRead 139 = .ok (.aload_n 0, 1) := by decide +kernel
theorem dX10_takeRead_140 : decode cX10_takeRead 140 = .ok (.getfield 13, 3) := by decide +kernel
theorem dX10_takeRead_143 : decode cX10_takeRead 143 = .ok (.bipush 80, 2) := by decide +kernel
theorem dX10_takeRead_145 : decode cX10_takeRead 145 = .ok (.iconst 0, 1) := by decide +kernel
theorem dX10_takeRead_146 : decode cX10_takeRead 146 = .ok (.iastore, 1) := by decide +kernel
theorem dX10_takeRead_147 : decode cX10_takeRead 147 = .ok (.return_, 1) := by decide +kernel
theorem dX10_place_0 : decode cX10_place 0 = .ok (.aload_n 0, 1) := by decide +kernel
theorem dX10_place_1 : decode cX10_place 1 = .ok (.iconst (-1), 1) := by decide +kernel
theorem dX10_place_2 : decode cX10_place 2 = .ok (.putfield 19, 3) := by decide +kernel
theorem dX10_place_5 : decode cX10_place 5 = .ok (.aload_n 0, 1) := by decide +kernel
theorem dX10_place_6 : decode cX10_place 6 = .ok (.iconst 0, 1) := by decide +kernel
theorem dX10_place_7 : decode cX10_place 7 = .ok (.putfield 81, 3) := by decide +kernel
theorem dX10_place_10 : decode cX10_place 10 = .ok (.aload_n 0, 1) := by decide +kernel
theorem dX10_place_11 : decode cX10_place 11 = .ok (.iconst 0, 1) := by decide +kernel
theorem dX10_place_12 : decode cX10_place 12 = .ok (.putfield 105, 3) := by decide +kernel
theorem dX10_place_15 : decode cX10_place 15 = .ok (.iconst 0, 1) := by decide +kernel
theorem dX10_place_16 : decode cX10_place 16 = .ok (.istore_n 1, 1) := by decide +kernel
theorem dX10_place_17 : decode cX10_place 17 = .ok (.iload_n 1, 1) := by decide +kernel
theorem dX10_place_18 : decode cX10_place 18 = .ok (.bipush 64, 2) := by decide +kernel
theorem dX10_place_20 : decode cX10_place 20 = .ok (.if_icmp .ge 16, 3) := by decide +kernel
theorem dX10_place_23 : decode cX10_place 23 = .ok (.aload_n 0, 1) := by decide +kernel
theorem dX10_place_24 : decode cX10_place 24 = .ok (.getfield 29, 3) := by decide +kernel
theorem dX10_place_27 : decode cX10_place 27 = .ok (.iload_n 1, 1) := by decide +kernel
theorem dX10_place_28 : decode cX10_place 28 = .ok (.iconst 0, 1) := by decide +kernel
theorem dX10_place_29 : decode cX10_place 29 = .ok (.bastore, 1) := by decide +kernel
theorem dX10_place_30 : decode cX10_place 30 = .ok (.iinc 1 1, 3) := by decide +kernel
theorem dX10_place_33 : decode cX10_place 33 = .ok (.goto (-16), 3) := by decide +kernel
theorem dX10_place_36 : decode cX10_place 36 = .ok (.iconst 0, 1) := by decide +kernel
theorem dX10_place_37 : decode cX10_place 37 = .ok (.istore_n 1, 1) := by decide +kernel
theorem dX10_place_38 : decode cX10_place 38 = .ok (.iload_n 1, 1) := by decide +kernel
theorem dX10_place_39 : decode cX10_place 39 = .ok (.ifCond .ne 18, 3) := by decide +kernel
theorem dX10_place_42 : decode cX10_place 42 = .ok (.aload_n 0, 1) := by decide +kernel
theorem dX10_place_43 : decode cX10_place 43 = .ok (.invokevirtual 84, 3) := by decide +kernel
theorem dX10_place_46 : decode cX10_place 46 = .ok (.ifCond .lt 11, 3) := by decide +kernel
theorem dX10_place_49 : decode cX10_place 49 = .ok (.aload_n 0, 1) := by decide +kernel
theorem dX10_place_50 : decode cX10_place 50 = .ok (.invokevirtual 118, 3) := by decide +kernel
theorem dX10_place_53 : decode cX10_place 53 = .ok (.istore_n 1, 1) := by decide +kernel
theorem dX10_place_54 : decode cX10_place 54 = .ok (.goto (-16), 3) := by decide +kernel
theorem dX10_place_57 : decode cX10_place 57 = .ok (.aload_n 0, 1) := by decide +kernel
theorem dX10_place_58 : decode cX10_place 58 = .ok (.iconst 0, 1) := by decide +kernel
theorem dX10_place_59 : decode cX10_place 59 = .ok (.putfield 77, 3) := by decide +kernel
theorem dX10_place_62 : decode cX10_place 62 = .ok (.iload_n 1, 1) := by decide +kernel
theorem dX10_place_63 : decode cX10_place 63 = .ok (.ifCond .le 8, 3) := by decide +kernel
theorem dX10_place_66 : decode cX10_place 66 = .ok (.bipush (-10), 2) := by decide +kernel
theorem dX10_place_68 : decode cX10_place 68 = .ok (.iload_n 1, 1) := by decide +kernel
theorem dX10_place_69 : decode cX10_place 69 = .ok (.isub, 1) := by decide +kernel
theorem dX10_place_70 : decode cX10_place 70 = .ok (.ireturn, 1) := by decide +kernel
theorem dX10_place_71 : decode cX10_place 71 = .ok (.aload_n 0, 1) := by decide +kernel
theorem dX10_place_72 : decode cX10_place 72 = .ok (.invokevirtual 121, 3) := by decide +kernel
theorem dX10_place_75 : decode cX10_place 75 = .ok (.aload_n 0, 1) := by decide +kernel
theorem dX10_place_76 : decode cX10_place 76 = .ok (.iconst 0, 1) := by decide +kernel
theorem dX10_place_77 : decode cX10_place 77 = .ok (.putfield 124, 3) := by decide +kernel
theorem dX10_place_80 : decode cX10_place 80 = .ok (.aload_n 0, 1) := by decide +kernel
theorem dX10_place_81 : decode cX10_place 81 = .ok (.iconst 0, 1) := by decide +kernel
theorem dX10_place_82 : decode cX10_place 82 = .ok (.putfield 127, 3) := by decide +kernel
theorem dX10_place_85 : decode cX10_place 85 = .ok (.aload_n 0, 1) := by decide +kernel
theorem dX10_place_86 : decode cX10_place 86 = .ok (.iconst 0, 1) := by decide +kernel
theorem dX10_place_87 : decode cX10_place 87 = .ok (.putfield 130, 3) := by decide +kernel
theorem dX10_place_90 : decode cX10_place 90 = .ok (.aload_n 0, 1) := by decide +kernel
theorem dX10_place_91 : decode cX10_place 91 = .ok (.getfield 60, 3) := by decide +kernel
theorem dX10_place_94 : decode cX10_place 94 = .ok (.iconst 0, 1) := by decide +kernel
theorem dX10_place_95 : decode cX10_place 95 = .ok (.iconst 0, 1) := by decide +kernel
theorem dX10_place_96 : decode cX10_place 96 = .ok (.bastore, 1) := by decide +kernel
theorem dX10_place_97 : decode cX10_place 97 = .ok (.aload_n 0, 1) := by decide +kernel
theorem dX10_place_98 : decode cX10_place 98 = .ok (.getfield 60, 3) := by decide +kernel
theorem dX10_place_101 : decode cX10_place 101 = .ok (.iconst 1, 1) := by decide +kernel
theorem dX10_place_102 : decode cX10_place 102 = .ok (.iconst 0, 1) := by decide +kernel
theorem dX10_place_103 : decode cX10_place 103 = .ok (.bastore, 1) := by decide +kernel
theorem dX10_place_104 : decode cX10_place 104 = .ok (.aload_n 0, 1) := by decide +kernel
theorem dX10_place_105 : decode cX10_place 105 = .ok (.getfield 63, 3) := by decide +kernel
theorem dX10_place_108 : decode cX10_place 108 = .ok (.ireturn, 1) := by decide +kernel
theorem dX10_fault_0 : decode cX10_fault 0 = .ok (.aload_n 0, 1) := by decide +kernel
theorem dX10_fault_1 : decode cX10_fault 1 = .ok (.getfield 19, 3) := by decide +kernel
theorem dX10_fault_4 : decode cX10_fault 4 = .ok (.ireturn, 1) := by decide +kernel
theorem dX10_twoOfOne_0 : decode cX10_twoOfOne 0 = .ok (.iconst 0, 1) := by decide +kernel
theorem dX10_twoOfOne_1 : decode cX10_twoOfOne 1 = .ok (.istore_n 1, 1) := by decide +kernel
theorem dX10_twoOfOne_2 : decode cX10_twoOfOne 2 = .ok (.iconst 0, 1) := by decide +kernel
theorem dX10_twoOfOne_3 : decode cX10_twoOfOne 3 = .ok (.istore_n 2, 1) := by decide +kernel
theorem dX10_twoOfOne_4 : decode cX10_twoOfOne 4 = .ok (.iload_n 2, 1) := by decide +kernel
theorem dX10_twoOfOne_5 : decode cX10_twoOfOne 5 = .ok (.aload_n 0, 1) := by decide +kernel
theorem dX10_twoOfOne_6 : decode cX10_twoOfOne 6 = .ok (.getfield 63, 3) := by decide +kernel
theorem dX10_twoOfOne_9 : decode cX10_twoOfOne 9 = .ok (.if_icmp .ge 61, 3) := by decide +kernel
theorem dX10_twoOfOne_12 : decode cX10_twoOfOne 12 = .ok (.iconst 0, 1) := by decide +kernel
theorem dX10_twoOfOne_13 : decode cX10_twoOfOne 13 = .ok (.istore_n 3, 1) := by decide +kernel
theorem dX10_twoOfOne_14 : decode cX10_twoOfOne 14 = .ok (.iload_n 3, 1) := by decide +kernel
theorem dX10_twoOfOne_15 : decode cX10_twoOfOne 15 = .ok (.aload_n 0, 1) := by decide +kernel
theorem dX10_twoOfOne_16 : decode cX10_twoOfOne 16 = .ok (.getfield 63, 3) := by decide +kernel
theorem dX10_twoOfOne_19 : decode cX10_twoOfOne 19 = .ok (.if_icmp .ge 45, 3) := by decide +kernel
theorem dX10_twoOfOne_22 : decode cX10_twoOfOne 22 = .ok (.iload_n 1, 1) := by decide +kernel
theorem dX10_twoOfOne_23 : decode cX10_twoOfOne 23 = .ok (.iload_n 2, 1) := by decide +kernel
theorem dX10_twoOfOne_24 : decode cX10_twoOfOne 24 = .ok (.iload_n 3, 1) := by decide +kernel
theorem dX10_twoOfOne_25 : decode cX10_twoOfOne 25 = .ok (.if_icmp .eq 30, 3) := by decide +kernel
theorem dX10_twoOfOne_28 : decode cX10_twoOfOne 28 = .ok (.aload_n 0, 1) := by decide +kernel
theorem dX10_twoOfOne_29 : decode cX10_twoOfOne 29 = .ok (.getfield 13, 3) := by decide +kernel
theorem dX10_twoOfOne_32 : decode cX10_twoOfOne 32 = .ok (.bipush 8, 2) := by decide +kernel
theorem dX10_twoOfOne_34 : decode cX10_twoOfOne 34 = .ok (.iload_n 2, 1) := by decide +kernel
theorem dX10_twoOfOne_35 : decode cX10_twoOfOne 35 = .ok (.iadd, 1) := by decide +kernel
theorem dX10_twoOfOne_36 : decode cX10_twoOfOne 36 = .ok (.iaload, 1) := by decide +kernel
theorem dX10_twoOfOne_37 : decode cX10_twoOfOne 37 = .ok (.aload_n 0, 1) := by decide +kernel
theorem dX10_twoOfOne_38 : decode cX10_twoOfOne 38 = .ok (.getfield 13, 3) := by decide +kernel
theorem dX10_twoOfOne_41 : decode cX10_twoOfOne 41 = .ok (.bipush 8, 2) := by decide +kernel
theorem dX10_twoOfOne_43 : decode cX10_twoOfOne 43 = .ok (.iload_n 3, 1) := by decide +kernel
theorem dX10_twoOfOne_44 : decode cX10_twoOfOne 44 = .ok (.iadd, 1) := by decide +kernel
theorem dX10_twoOfOne_45 : decode cX10_twoOfOne 45 = .ok (.iaload, 1) := by decide +kernel
theorem dX10_twoOfOne_46 : decode cX10_twoOfOne 46 = .ok (.if_icmp .ne 9, 3) := by decide +kernel
theorem dX10_twoOfOne_49 : decode cX10_twoOfOne 49 = .ok (.iconst 1, 1) := by decide +kernel
theorem dX10_twoOfOne_50 : decode cX10_twoOfOne 50 = .ok (.iload_n 2, 1) := by decide +kernel
theorem dX10_twoOfOne_51 : decode cX10_twoOfOne 51 = .ok (.ishl, 1) := by decide +kernel
theorem dX10_twoOfOne_52 : decode cX10_twoOfOne 52 = .ok (.goto 4, 3) := by decide +kernel
theorem dX10_twoOfOne_55 : decode cX10_twoOfOne 55 = .ok (.iconst 0, 1) := by decide +kernel
theorem dX10_twoOfOne_56 : decode cX10_twoOfOne 56 = .ok (.ior, 1) := by decide +kernel
theorem dX10_twoOfOne_57 : decode cX10_twoOfOne 57 = .ok (.istore_n 1, 1) := by decide +kernel
theorem dX10_twoOfOne_58 : decode cX10_twoOfOne 58 = .ok (.iinc 3 1, 3) := by decide +kernel
theorem dX10_twoOfOne_61 : decode cX10_twoOfOne 61 = .ok (.goto (-47), 3) := by decide +kernel
theorem dX10_twoOfOne_64 : decode cX10_twoOfOne 64 = .ok (.iinc 2 1, 3) := by decide +kernel
theorem dX10_twoOfOne_67 : decode cX10_twoOfOne 67 = .ok (.goto (-63), 3) := by decide +kernel
theorem dX10_twoOfOne_70 : decode cX10_twoOfOne 70 = .ok (.iload_n 1, 1) := by decide +kernel
theorem dX10_twoOfOne_71 : decode cX10_twoOfOne 71 = .ok (.ireturn, 1) := by decide +kernel
theorem dX10_nobody_0 : decode cX10_nobody 0 = .ok (.iconst 1, 1) := by decide +kernel
theorem dX10_nobody_1 : decode cX10_nobody 1 = .ok (.aload_n 0, 1) := by decide +kernel
theorem dX10_nobody_2 : decode cX10_nobody 2 = .ok (.getfield 63, 3) := by decide +kernel
theorem dX10_nobody_5 : decode cX10_nobody 5 = .ok (.ishl, 1) := by decide +kernel
theorem dX10_nobody_6 : decode cX10_nobody 6 = .ok (.iconst 1, 1) := by decide +kernel
theorem dX10_nobody_7 : decode cX10_nobody 7 = .ok (.isub, 1) := by decide +kernel
theorem dX10_nobody_8 : decode cX10_nobody 8 = .ok (.istore_n 1, 1) := by decide +kernel
theorem dX10_nobody_9 : decode cX10_nobody 9 = .ok (.iconst 0, 1) := by decide +kernel
theorem dX10_nobody_10 : decode cX10_nobody 10 = .ok (.istore_n 2, 1) := by decide +kernel
theorem dX10_nobody_11 : decode cX10_nobody 11 = .ok (.iload_n 2, 1) := by decide +kernel
theorem dX10_nobody_12 : decode cX10_nobody 12 = .ok (.aload_n 0, 1) := by decide +kernel
theorem dX10_nobody_13 : decode cX10_nobody 13 = .ok (.getfield 63, 3) := by decide +kernel
theorem dX10_nobody_16 : decode cX10_nobody 16 = .ok (.if_icmp .ge 25, 3) := by decide +kernel
theorem dX10_nobody_19 : decode cX10_nobody 19 = .ok (.iload_n 1, 1) := by decide +kernel
theorem dX10_nobody_20 : decode cX10_nobody 20 = .ok (.iconst 1, 1) := by decide +kernel
theorem dX10_nobody_21 : decode cX10_nobody 21 = .ok (.aload_n 0, 1) := by decide +kernel
theorem dX10_nobody_22 : decode cX10_nobody 22 = .ok (.getfield 13, 3) := by decide +kernel
theorem dX10_nobody_25 : decode cX10_nobody 25 = .ok (.bipush 8, 2) := by decide +kernel
theorem dX10_nobody_27 : decode cX10_nobody 27 = .ok (.iload_n 2, 1) := by decide +kernel
theorem dX10_nobody_28 : decode cX10_nobody 28 = .ok (.iadd, 1) := by decide +kernel
theorem dX10_nobody_29 : decode cX10_nobody 29 = .ok (.iaload, 1) := by decide +kernel
theorem dX10_nobody_30 : decode cX10_nobody 30 = .ok (.ishl, 1) := by decide +kernel
theorem dX10_nobody_31 : decode cX10_nobody 31 = .ok (.iconst (-1), 1) := by decide +kernel
theorem dX10_nobody_32 : decode cX10_nobody 32 = .ok (.ixor, 1) := by decide +kernel
theorem dX10_nobody_33 : decode cX10_nobody 33 = .ok (.iand, 1) := by decide +kernel
theorem dX10_nobody_34 : decode cX10_nobody 34 = .ok (.istore_n 1, 1) := by decide +kernel
theorem dX10_nobody_35 : decode cX10_nobody 35 = .ok (.iinc 2 1, 3) := by decide +kernel
theorem dX10_nobody_38 : decode cX10_nobody 38 = .ok (.goto (-27), 3) := by decide +kernel
theorem dX10_nobody_41 : decode cX10_nobody 41 = .ok (.iload_n 1, 1) := by decide +kernel
theorem dX10_nobody_42 : decode cX10_nobody 42 = .ok (.ireturn, 1) := by decide +kernel
theorem dX10_remembered_0 : decode cX10_remembered 0 = .ok (.aload_n 0, 1) := by decide +kernel
theorem dX10_remembered_1 : decode cX10_remembered 1 = .ok (.getfield 13, 3) := by decide +kernel
theorem dX10_remembered_4 : decode cX10_remembered 4 = .ok (.bipush 16, 2) := by decide +kernel
theorem dX10_remembered_6 : decode cX10_remembered 6 = .ok (.bipush 8, 2) := by decide +kernel
theorem dX10_remembered_8 : decode cX10_remembered 8 = .ok (.iload_n 1, 1) := by decide +kernel
theorem dX10_remembered_9 : decode cX10_remembered 9 = .ok (.imul, 1) := by decide +kernel
theorem dX10_remembered_10 : decode cX10_remembered 10 = .ok (.iadd, 1) := by decide +kernel
theorem dX10_remembered_11 : decode cX10_remembered 11 = .ok (.iload_n 2, 1) := by decide +kernel
theorem dX10_remembered_12 : decode cX10_remembered 12 = .ok (.iadd, 1) := by decide +kernel
theorem dX10_remembered_13 : decode cX10_remembered 13 = .ok (.iaload, 1) := by decide +kernel
theorem dX10_remembered_14 : decode cX10_remembered 14 = .ok (.ireturn, 1) := by decide +kernel
theorem dX10_knownBy_0 : decode cX10_knownBy 0 = .ok (.iconst 0, 1) := by decide +kernel
theorem dX10_knownBy_1 : decode cX10_knownBy 1 = .ok (.istore_n 2, 1) := by decide +kernel
theorem dX10_knownBy_2 : decode cX10_knownBy 2 = .ok (.iconst 0, 1) := by decide +kernel
theorem dX10_knownBy_3 : decode cX10_knownBy 3 = .ok (.istore_n 3, 1) := by decide +kernel
theorem dX10_knownBy_4 : decode cX10_knownBy 4 = .ok (.iload_n 3, 1) := by decide +kernel
theorem dX10_knownBy_5 : decode cX10_knownBy 5 = .ok (.aload_n 0, 1) := by decide +kernel
theorem dX10_knownBy_6 : decode cX10_knownBy 6 = .ok (.getfield 63, 3) := by decide +kernel
theorem dX10_knownBy_9 : decode cX10_knownBy 9 = .ok (.if_icmp .ge 28, 3) := by decide +kernel
theorem dX10_knownBy_12 : decode cX10_knownBy 12 = .ok (.iload_n 2, 1) := by decide +kernel
theorem dX10_knownBy_13 : decode cX10_knownBy 13 = .ok (.aload_n 0, 1) := by decide +kernel
theorem dX10_knownBy_14 : decode cX10_knownBy 14 = .ok (.iload_n 1, 1) := by decide +kernel
theorem dX10_knownBy_15 : decode cX10_knownBy 15 = .ok (.iload_n 3, 1) := by decide +kernel
theorem dX10_knownBy_16 : decode cX10_knownBy 16 = .ok (.invokevirtual 133, 3) := by decide +kernel
theorem dX10_knownBy_19 : decode cX10_knownBy 19 = .ok (.ifCond .lt 9, 3) := by decide +kernel
theorem dX10_knownBy_22 : decode cX10_knownBy 22 = .ok (.iconst 1, 1) := by decide +kernel
theorem dX10_knownBy_23 : decode cX10_knownBy 23 = .ok (.iload_n 3, 1) := by decide +kernel
theorem dX10_knownBy_24 : decode cX10_knownBy 24 = .ok (.ishl, 1) := by decide +kernel
theorem dX10_knownBy_25 : decode cX10_knownBy 25 = .ok (.goto 4, 3) := by decide +kernel
theorem dX10_knownBy_28 : decode cX10_knownBy 28 = .ok (.iconst 0, 1) := by decide +kernel
theorem dX10_knownBy_29 : decode cX10_knownBy 29 = .ok (.ior, 1) := by decide +kernel
theorem dX10_knownBy_30 : decode cX10_knownBy 30 = .ok (.istore_n 2, 1) := by decide +kernel
theorem dX10_knownBy_31 : decode cX10_knownBy 31 = .ok (.iinc 3 1, 3) := by decide +kernel
theorem dX10_knownBy_34 : decode cX10_knownBy 34 = .ok (.goto (-30), 3) := by decide +kernel
theorem dX10_knownBy_37 : decode cX10_knownBy 37 = .ok (.iload_n 2, 1) := by decide +kernel
theorem dX10_knownBy_38 : decode cX10_knownBy 38 = .ok (.ireturn, 1) := by decide +kernel
theorem dX10_whoKnow_0 : decode cX10_whoKnow 0 = .ok (.iconst 0, 1) := by decide +kernel
theorem dX10_whoKnow_1 : decode cX10_whoKnow 1 = .ok (.istore_n 2, 1) := by decide +kernel
theorem dX10_whoKnow_2 : decode cX10_whoKnow 2 = .ok (.iconst 0, 1) := by decide +kernel
theorem dX10_whoKnow_3 : decode cX10_whoKnow 3 = .ok (.istore_n 3, 1) := by decide +kernel
theorem dX10_whoKnow_4 : decode cX10_whoKnow 4 = .ok (.iload_n 3, 1) := by decide +kernel
theorem dX10_whoKnow_5 : decode cX10_whoKnow 5 = .ok (.aload_n 0, 1) := by decide +kernel
theorem dX10_whoKnow_6 : decode cX10_whoKnow 6 = .ok (.getfield 63, 3) := by decide +kernel
theorem dX10_whoKnow_9 : decode cX10_whoKnow 9 = .ok (.if_icmp .ge 28, 3) := by decide +kernel
theorem dX10_whoKnow_12 : decode cX10_whoKnow 12 = .ok (.iload_n 2, 1) := by decide +kernel
theorem dX10_whoKnow_13 : decode cX10_whoKnow 13 = .ok (.aload_n 0, 1) := by decide +kernel
theorem dX10_whoKnow_14 : decode cX10_whoKnow 14 = .ok (.iload_n 3, 1) := by decide +kernel
theorem dX10_whoKnow_15 : decode cX10_whoKnow 15 = .ok (.iload_n 1, 1) := by decide +kernel
theorem dX10_whoKnow_16 : decode cX10_whoKnow 16 = .ok (.invokevirtual 133, 3) := by decide +kernel
theorem dX10_whoKnow_19 : decode cX10_whoKnow 19 = .ok (.ifCond .lt 9, 3) := by decide +kernel
theorem dX10_whoKnow_22 : decode cX10_whoKnow 22 = .ok (.iconst 1, 1) := by decide +kernel
theorem dX10_whoKnow_23 : decode cX10_whoKnow 23 = .ok (.iload_n 3, 1) := by decide +kernel
theorem dX10_whoKnow_24 : decode cX10_whoKnow 24 = .ok (.ishl, 1) := by decide +kernel
theorem dX10_whoKnow_25 : decode cX10_whoKnow 25 = .ok (.goto 4, 3) := by decide +kernel
theorem dX10_whoKnow_28 : decode cX10_whoKnow 28 = .ok (.iconst 0, 1) := by decide +kernel
theorem dX10_whoKnow_29 : decode cX10_whoKnow 29 = .ok (.ior, 1) := by decide +kernel
theorem dX10_whoKnow_30 : decode cX10_whoKnow 30 = .ok (.istore_n 2, 1) := by decide +kernel
theorem dX10_whoKnow_31 : decode cX10_whoKnow 31 = .ok (.iinc 3 1, 3) := by decide +kernel
theorem dX10_whoKnow_34 : decode cX10_whoKnow 34 = .ok (.goto (-30), 3) := by decide +kernel
theorem dX10_whoKnow_37 : decode cX10_whoKnow 37 = .ok (.iload_n 2, 1) := by decide +kernel
theorem dX10_whoKnow_38 : decode cX10_whoKnow 38 = .ok (.ireturn, 1) := by decide +kernel
theorem dX10_pairs_0 : decode cX10_pairs 0 = .ok (.iconst 0, 1) := by decide +kernel
theorem dX10_pairs_1 : decode cX10_pairs 1 = .ok (.istore_n 1, 1) := by decide +kernel
theorem dX10_pairs_2 : decode cX10_pairs 2 = .ok (.iconst 0, 1) := by decide +kernel
theorem dX10_pairs_3 : decode cX10_pairs 3 = .ok (.istore_n 2, 1) := by decide +kernel
theorem dX10_pairs_4 : decode cX10_pairs 4 = .ok (.iload_n 2, 1) := by decide +kernel
theorem dX10_pairs_5 : decode cX10_pairs 5 = .ok (.aload_n 0, 1) := by decide +kernel
theorem dX10_pairs_6 : decode cX10_pairs 6 = .ok (.getfield 63, 3) := by decide +kernel
theorem dX10_pairs_9 : decode cX10_pairs 9 = .ok (.if_icmp .ge 20, 3) := by decide +kernel
theorem dX10_pairs_12 : decode cX10_pairs 12 = .ok (.iload_n 1, 1) := by decide +kernel
theorem dX10_pairs_13 : decode cX10_pairs 13 = .ok (.aload_n 0, 1) := by decide +kernel
theorem dX10_pairs_14 : decode cX10_pairs 14 = .ok (.iload_n 2, 1) := by decide +kernel
theorem dX10_pairs_15 : decode cX10_pairs 15 = .ok (.invokevirtual 136, 3) := by decide +kernel
theorem dX10_pairs_18 : decode cX10_pairs 18 = .ok (.invokestatic 140, 3) := by decide +kernel
theorem dX10_pairs_21 : decode cX10_pairs 21 = .ok (.iadd, 1) := by decide +kernel
theorem dX10_pairs_22 : decode cX10_pairs 22 = .ok (.istore_n 1, 1) := by decide +kernel
theorem dX10_pairs_23 : decode cX10_pairs 23 = .ok (.iinc 2 1, 3) := by decide +kernel
theorem dX10_pairs_26 : decode cX10_pairs 26 = .ok (.goto (-22), 3) := by decide +kernel
theorem dX10_pairs_29 : decode cX10_pairs 29 = .ok (.iload_n 1, 1) := by decide +kernel
theorem dX10_pairs_30 : decode cX10_pairs 30 = .ok (.ireturn, 1) := by decide +kernel
theorem dX10_told_0 : decode cX10_told 0 = .ok (.iload_n 1, 1) := by decide +kernel
theorem dX10_told_1 : decode cX10_told 1 = .ok (.tableswitch 99 0 8 #[51, 56, 61, 69, 74, 79, 84, 89, 94], 51) := by decide +kernel
theorem dX10_told_52 : decode cX10_told 52 = .ok (.aload_n 0, 1) := by decide +kernel
theorem dX10_told_53 : decode cX10_told 53 = .ok (.getfield 63, 3) := by decide +kernel
theorem dX10_told_56 : decode cX10_told 56 = .ok (.ireturn, 1) := by decide +kernel
theorem dX10_told_57 : decode cX10_told 57 = .ok (.aload_n 0, 1) := by decide +kernel
theorem dX10_told_58 : decode cX10_told 58 = .ok (.getfield 77, 3) := by decide +kernel
theorem dX10_told_61 : decode cX10_told 61 = .ok (.ireturn, 1) := by decide +kernel
theorem dX10_told_62 : decode cX10_told 62 = .ok (.aload_n 0, 1) := by decide +kernel
theorem dX10_told_63 : decode cX10_told 63 = .ok (.getfield 13, 3) := by decide +kernel
theorem dX10_told_66 : decode cX10_told 66 = .ok (.bipush 80, 2) := by decide +kernel
theorem dX10_told_68 : decode cX10_told 68 = .ok (.iaload, 1) := by decide +kernel
theorem dX10_told_69 : decode cX10_told 69 = .ok (.ireturn, 1) := by decide +kernel
theorem dX10_told_70 : decode cX10_told 70 = .ok (.aload_n 0, 1) := by decide +kernel
theorem dX10_told_71 : decode cX10_told 71 = .ok (.invokevirtual 143, 3) := by decide +kernel
theorem dX10_told_74 : decode cX10_told 74 = .ok (.ireturn, 1) := by decide +kernel
theorem dX10_told_75 : decode cX10_told 75 = .ok (.aload_n 0, 1) := by decide +kernel
theorem dX10_told_76 : decode cX10_told 76 = .ok (.invokevirtual 146, 3) := by decide +kernel
theorem dX10_told_79 : decode cX10_told 79 = .ok (.ireturn, 1) := by decide +kernel
theorem dX10_told_80 : decode cX10_told 80 = .ok (.aload_n 0, 1) := by decide +kernel
theorem dX10_told_81 : decode cX10_told 81 = .ok (.invokevirtual 149, 3) := by decide +kernel
theorem dX10_told_84 : decode cX10_told 84 = .ok (.ireturn, 1) := by decide +kernel
theorem dX10_told_85 : decode cX10_told 85 = .ok (.aload_n 0, 1) := by decide +kernel
theorem dX10_told_86 : decode cX10_told 86 = .ok (.getfield 124, 3) := by decide +kernel
theorem dX10_told_89 : decode cX10_told 89 = .ok (.ireturn, 1) := by decide +kernel
theorem dX10_told_90 : decode cX10_told 90 = .ok (.aload_n 0, 1) := by decide +kernel
theorem dX10_told_91 : decode cX10_told 91 = .ok (.getfield 127, 3) := by decide +kernel
theorem dX10_told_94 : decode cX10_told 94 = .ok (.ireturn, 1) := by decide +kernel
theorem dX10_told_95 : decode cX10_told 95 = .ok (.aload_n 0, 1) := by decide +kernel
theorem dX10_told_96 : decode cX10_told 96 = .ok (.getfield 130, 3) := by decide +kernel
theorem dX10_told_99 : decode cX10_told 99 = .ok (.ireturn, 1) := by decide +kernel
theorem dX10_told_100 : decode cX10_told 100 = .ok (.ldc 76, 2) := by decide +kernel
theorem dX10_told_102 : decode cX10_told 102 = .ok (.ireturn, 1) := by decide +kernel
theorem dX10_person_0 : decode cX10_person 0 = .ok (.aload_n 0, 1) := by decide +kernel
theorem dX10_person_1 : decode cX10_person 1 = .ok (.iload_n 1, 1) := by decide +kernel
theorem dX10_person_2 : decode cX10_person 2 = .ok (.invokevirtual 70, 3) := by decide +kernel
theorem dX10_person_5 : decode cX10_person 5 = .ok (.ifCond .ne 6, 3) := by decide +kernel
theorem dX10_person_8 : decode cX10_person 8 = .ok (.ldc 152, 2) := by decide +kernel
theorem dX10_person_10 : decode cX10_person 10 = .ok (.ireturn, 1) := by decide +kernel
theorem dX10_person_11 : decode cX10_person 11 = .ok (.iload_n 2, 1) := by decide +kernel
theorem dX10_person_12 : decode cX10_person 12 = .ok (.tableswitch 72 0 4 #[36, 43, 50, 60, 66], 36) := by decide +kernel
theorem dX10_person_48 : decode cX10_person 48 = .ok (.aload_n 0, 1) := by decide +kernel
theorem dX10_person_49 : decode cX10_person 49 = .ok (.getfield 13, 3) := by decide +kernel
theorem dX10_person_52 : decode cX10_person 52 = .ok (.iload_n 1, 1) := by decide +kernel
theorem dX10_person_53 : decode cX10_person 53 = .ok (.iaload, 1) := by decide +kernel
theorem dX10_person_54 : decode cX10_person 54 = .ok (.ireturn, 1) := by decide +kernel
theorem dX10_person_55 : decode cX10_person 55 = .ok (.aload_n 0, 1) := by decide +kernel
theorem dX10_person_56 : decode cX10_person 56 = .ok (.getfield 7, 3) := by decide +kernel
theorem dX10_person_59 : decode cX10_person 59 = .ok (.iload_n 1, 1) := by decide +kernel
theorem dX10_person_60 : decode cX10_person 60 = .ok (.iaload, 1) := by decide +kernel
theorem dX10_person_61 : decode cX10_person 61 = .ok (.ireturn, 1) := by decide +kernel
theorem dX10_person_62 : decode cX10_person 62 = .ok (.aload_n 0, 1) := by decide +kernel
theorem dX10_person_63 : decode cX10_person 63 = .ok (.getfield 13, 3) := by decide +kernel
theorem dX10_person_66 : decode cX10_person 66 = .ok (.bipush 8, 2) := by decide +kernel
theorem dX10_person_68 : decode cX10_person 68 = .ok (.iload_n 1, 1) := by decide +kernel
theorem dX10_person_69 : decode cX10_person 69 = .ok (.iadd, 1) := by decide +kernel
theorem dX10_person_70 : decode cX10_person 70 = .ok (.iaload, 1) := by decide +kernel
theorem dX10_person_71 : decode cX10_person 71 = .ok (.ireturn, 1) := by decide +kernel
theorem dX10_person_72 : decode cX10_person 72 = .ok (.aload_n 0, 1) := by decide +kernel
theorem dX10_person_73 : decode cX10_person 73 = .ok (.iload_n 1, 1) := by decide +kernel
theorem dX10_person_74 : decode cX10_person 74 = .ok (.invokevirtual 136, 3) := by decide +kernel
theorem dX10_person_77 : decode cX10_person 77 = .ok (.ireturn, 1) := by decide +kernel
theorem dX10_person_78 : decode cX10_person 78 = .ok (.aload_n 0, 1) := by decide +kernel
theorem dX10_person_79 : decode cX10_person 79 = .ok (.iload_n 1, 1) := by decide +kernel
theorem dX10_person_80 : decode cX10_person 80 = .ok (.invokevirtual 153, 3) := by decide +kernel
theorem dX10_person_83 : decode cX10_person 83 = .ok (.ireturn, 1) := by decide +kernel
theorem dX10_person_84 : decode cX10_person 84 = .ok (.ldc 76, 2) := by decide +kernel
theorem dX10_person_86 : decode cX10_person 86 = .ok (.ireturn, 1) := by decide +kernel
theorem dX10_remembers_0 : decode cX10_remembers 0 = .ok (.aload_n 0, 1) := by decide +kernel
theorem dX10_remembers_1 : decode cX10_remembers 1 = .ok (.iload_n 1, 1) := by decide +kernel
theorem dX10_remembers_2 : decode cX10_remembers 2 = .ok (.iload_n 2, 1) := by decide +kernel
theorem dX10_remembers_3 : decode cX10_remembers 3 = .ok (.invokevirtual 156, 3) := by decide +kernel
theorem dX10_remembers_6 : decode cX10_remembers 6 = .ok (.ifCond .eq 12, 3) := by decide +kernel
theorem dX10_remembers_9 : decode cX10_remembers 9 = .ok (.aload_n 0, 1) := by decide +kernel
theorem dX10_remembers_10 : decode cX10_remembers 10 = .ok (.iload_n 1, 1) := by decide +kernel
theorem dX10_remembers_11 : decode cX10_remembers 11 = .ok (.iload_n 2, 1) := by decide +kernel
theorem dX10_remembers_12 : decode cX10_remembers 12 = .ok (.invokevirtual 133, 3) := by decide +kernel
theorem dX10_remembers_15 : decode cX10_remembers 15 = .ok (.goto 5, 3) := by decide +kernel
theorem dX10_remembers_18 : decode cX10_remembers 18 = .ok (.ldc 152, 2) := by decide +kernel
theorem dX10_remembers_20 : decode cX10_remembers 20 = .ok (.ireturn, 1) := by decide +kernel
theorem dX10_apart_0 : decode cX10_apart 0 = .ok (.iload_n 0, 1) := by decide +kernel
theorem dX10_apart_1 : decode cX10_apart 1 = .ok (.iload_n 1, 1) := by decide +kernel
theorem dX10_apart_2 : decode cX10_apart 2 = .ok (.ixor, 1) := by decide +kernel
theorem dX10_apart_3 : decode cX10_apart 3 = .ok (.invokestatic 140, 3) := by decide +kernel
theorem dX10_apart_6 : decode cX10_apart 6 = .ok (.ireturn, 1) := by decide +kernel
theorem dX10_pickBy_0 : decode cX10_pickBy 0 = .ok (.iconst (-1), 1) := by decide +kernel
theorem dX10_pickBy_1 : decode cX10_pickBy 1 = .ok (.istore_n 3, 1) := by decide +kernel
theorem dX10_pickBy_2 : decode cX10_pickBy 2 = .ok (.bipush 99, 2) := by decide +kernel
theorem dX10_pickBy_4 : decode cX10_pickBy 4 = .ok (.istore 4, 2) := by decide +kernel
theorem dX10_pickBy_6 : decode cX10_pickBy 6 = .ok (.iconst 0, 1) := by decide +kernel
theorem dX10_pickBy_7 : decode cX10_pickBy 7 = .ok (.istore 5, 2) := by decide +kernel
theorem dX10_pickBy_9 : decode cX10_pickBy 9 = .ok (.iload 5, 2) := by decide +kernel
theorem dX10_pickBy_11 : decode cX10_pickBy 11 = .ok (.aload_n 0, 1) := by decide +kernel
theorem dX10_pickBy_12 : decode cX10_pickBy 12 = .ok (.getfield 63, 3) := by decide +kernel
theorem dX10_pickBy_15 : decode cX10_pickBy 15 = .ok (.if_icmp .ge 66, 3) := by decide +kernel
theorem dX10_pickBy_18 : decode cX10_pickBy 18 = .ok (.iload_n 2, 1) := by decide +kernel
theorem dX10_pickBy_19 : decode cX10_pickBy 19 = .ok (.iload 5, 2) := by decide +kernel
theorem dX10_pickBy_21 : decode cX10_pickBy 21 = .ok (.invokestatic 160, 3) := by decide +kernel
theorem dX10_pickBy_24 : decode cX10_pickBy 24 = .ok (.ifCond .eq 17, 3) := by decide +kernel
theorem dX10_pickBy_27 : decode cX10_pickBy 27 = .ok (.aload_n 0, 1) := by decide +kernel
theorem dX10_pickBy_28 : decode cX10_pickBy 28 = .ok (.getfield 13, 3) := by decide +kernel
theorem dX10_pickBy_31 : decode cX10_pickBy 31 = .ok (.iload 5, 2) := by decide +kernel
theorem dX10_pickBy_33 : decode cX10_pickBy 33 = .ok (.iaload, 1) := by decide +kernel
theorem dX10_pickBy_34 : decode cX10_pickBy 34 = .ok (.iload_n 1, 1) := by decide +kernel
theorem dX10_pickBy_35 : decode cX10_pickBy 35 = .ok (.invokestatic 163, 3) := by decide +kernel
theorem dX10_pickBy_38 : decode cX10_pickBy 38 = .ok (.goto 5, 3) := by decide +kernel
theorem dX10_pickBy_41 : decode cX10_pickBy 41 = .ok (.bipush 99, 2) := by decide +kernel
theorem dX10_pickBy_43 : decode cX10_pickBy 43 = .ok (.istore 6, 2) := by decide +kernel
theorem dX10_pickBy_45 : decode cX10_pickBy 45 = .ok (.iload 6, 2) := by decide +kernel
theorem dX10_pickBy_47 : decode cX10_pickBy 47 = .ok (.iload 4, 2) := by decide +kernel
theorem dX10_pickBy_49 : decode cX10_pickBy 49 = .ok (.if_icmp .ge 8, 3) := by decide +kernel
theorem dX10_pickBy_52 : decode cX10_pickBy 52 = .ok (.iload 5, 2) := by decide +kernel
theorem dX10_pickBy_54 : decode cX10_pickBy 54 = .ok (.goto 4, 3) := by decide +kernel
theorem dX10_pickBy_57 : decode cX10_pickBy 57 = .ok (.iload_n 3, 1) := by decide +kernel
theorem dX10_pickBy_58 : decode cX10_pickBy 58 = .ok (.istore_n 3, 1) := by decide +kernel
theorem dX10_pickBy_59 : decode cX10_pickBy 59 = .ok (.iload 6, 2) := by decide +kernel
theorem dX10_pickBy_61 : decode cX10_pickBy 61 = .ok (.iload 4, 2) := by decide +kernel
theorem dX10_pickBy_63 : decode cX10_pickBy 63 = .ok (.if_icmp .ge 8, 3) := by decide +kernel
theorem dX10_pickBy_66 : decode cX10_pickBy 66 = .ok (.iload 6, 2) := by decide +kernel
theorem dX10_pickBy_68 : decode cX10_pickBy 68 = .ok (.goto 5, 3) := by decide +kernel
theorem dX10_pickBy_71 : decode cX10_pickBy 71 = .ok (.iload 4, 2) := by decide +kernel
theorem dX10_pickBy_73 : decode cX10_pickBy 73 = .ok (.istore 4, 2) := by decide +kernel
theorem dX10_pickBy_75 : decode cX10_pickBy 75 = .ok (.iinc 5 1, 3) := by decide +kernel
theorem dX10_pickBy_78 : decode cX10_pickBy 78 = .ok (.goto (-69), 3) := by decide +kernel
theorem dX10_pickBy_81 : decode cX10_pickBy 81 = .ok (.iload_n 3, 1) := by decide +kernel
theorem dX10_pickBy_82 : decode cX10_pickBy 82 = .ok (.ireturn, 1) := by decide +kernel
theorem dX10_sureBy_0 : decode cX10_sureBy 0 = .ok (.aload_n 0, 1) := by decide +kernel
theorem dX10_sureBy_1 : decode cX10_sureBy 1 = .ok (.iload_n 1, 1) := by decide +kernel
theorem dX10_sureBy_2 : decode cX10_sureBy 2 = .ok (.iload_n 3, 1) := by decide +kernel
theorem dX10_sureBy_3 : decode cX10_sureBy 3 = .ok (.invokevirtual 166, 3) := by decide +kernel
theorem dX10_sureBy_6 : decode cX10_sureBy 6 = .ok (.iload_n 2, 1) := by decide +kernel
theorem dX10_sureBy_7 : decode cX10_sureBy 7 = .ok (.if_icmp .eq 5, 3) := by decide +kernel
theorem dX10_sureBy_10 : decode cX10_sureBy 10 = .ok (.iconst 0, 1) := by decide +kernel
theorem dX10_sureBy_11 : decode cX10_sureBy 11 = .ok (.ireturn, 1) := by decide +kernel
theorem dX10_sureBy_12 : decode cX10_sureBy 12 = .ok (.bipush 99, 2) := by decide +kernel
theorem dX10_sureBy_14 : decode cX10_sureBy 14 = .ok (.istore 4, 2) := by decide +kernel
theorem dX10_sureBy_16 : decode cX10_sureBy 16 = .ok (.iconst 0, 1) := by decide +kernel
theorem dX10_sureBy_17 : decode cX10_sureBy 17 = .ok (.istore 5, 2) := by decide +kernel
theorem dX10_sureBy_19 : decode cX10_sureBy 19 = .ok (.iload 5, 2) := by decide +kernel
theorem dX10_sureBy_21 : decode cX10_sureBy 21 = .ok (.aload_n 0, 1) := by decide +kernel
theorem dX10_sureBy_22 : decode cX10_sureBy 22 = .ok (.getfield 63, 3) := by decide +kernel
theorem dX10_sureBy_25 : decode cX10_sureBy 25 = .ok (.if_icmp .ge 58, 3) := by decide +kernel
theorem dX10_sureBy_28 : decode cX10_sureBy 28 = .ok (.iload_n 3, 1) := by decide +kernel
theorem dX10_sureBy_29 : decode cX10_sureBy 29 = .ok (.iload 5, 2) := by decide +kernel
theorem dX10_sureBy_31 : decode cX10_sureBy 31 = .ok (.invokestatic 160, 3) := by decide +kernel
theorem dX10_sureBy_34 : decode cX10_sureBy 34 = .ok (.ifCond .eq 23, 3) := by decide +kernel
theorem dX10_sureBy_37 : decode cX10_sureBy 37 = .ok (.iload 5, 2) := by decide +kernel
theorem dX10_sureBy_39 : decode cX10_sureBy 39 = .ok (.iload_n 2, 1) := by decide +kernel
theorem dX10_sureBy_40 : decode cX10_sureBy 40 = .ok (.if_icmp .eq 17, 3) := by decide +kernel
theorem dX10_sureBy_43 : decode cX10_sureBy 43 = .ok (.aload_n 0, 1) := by decide +kernel
theorem dX10_sureBy_44 : decode cX10_sureBy 44 = .ok (.getfield 13, 3) := by decide +kernel
theorem dX10_sureBy_47 : decode cX10_sureBy 47 = .ok (.iload 5, 2) := by decide +kernel
theorem dX10_sureBy_49 : decode cX10_sureBy 49 = .ok (.iaload, 1) := by decide +kernel
theorem dX10_sureBy_50 : decode cX10_sureBy 50 = .ok (.iload_n 1, 1) := by decide +kernel
theorem dX10_sureBy_51 : decode cX10_sureBy 51 = .ok (.invokestatic 163, 3) := by decide +kernel
theorem dX10_sureBy_54 : decode cX10_sureBy 54 = .ok (.goto 5, 3) := by decide +kernel
theorem dX10_sureBy_57 : decode cX10_sureBy 57 = .ok (.bipush 99, 2) := by decide +kernel
theorem dX10_sureBy_59 : decode cX10_sureBy 59 = .ok (.istore 6, 2) := by decide +kernel
theorem dX10_sureBy_61 : decode cX10_sureBy 61 = .ok (.iload 6, 2) := by decide +kernel
theorem dX10_sureBy_63 : decode cX10_sureBy 63 = .ok (.iload 4, 2) := by decide +kernel
theorem dX10_sureBy_65 : decode cX10_sureBy 65 = .ok (.if_icmp .ge 8, 3) := by decide +kernel
theorem dX10_sureBy_68 : decode cX10_sureBy 68 = .ok (.iload 6, 2) := by decide +kernel
theorem dX10_sureBy_70 : decode cX10_sureBy 70 = .ok (.goto 5, 3) := by decide +kernel
theorem dX10_sureBy_73 : decode cX10_sureBy 73 = .ok (.iload 4, 2) := by decide +kernel
theorem dX10_sureBy_75 : decode cX10_sureBy 75 = .ok (.istore 4, 2) := by decide +kernel
theorem dX10_sureBy_77 : decode cX10_sureBy 77 = .ok (.iinc 5 1, 3) := by decide +kernel
theorem dX10_sureBy_80 : decode cX10_sureBy 80 = .ok (.goto (-61), 3) := by decide +kernel
theorem dX10_sureBy_83 : decode cX10_sureBy 83 = .ok (.iconst 1, 1) := by decide +kernel
theorem dX10_sureBy_84 : decode cX10_sureBy 84 = .ok (.iload 4, 2) := by decide +kernel
theorem dX10_sureBy_86 : decode cX10_sureBy 86 = .ok (.iadd, 1) := by decide +kernel
theorem dX10_sureBy_87 : decode cX10_sureBy 87 = .ok (.aload_n 0, 1) := by decide +kernel
theorem dX10_sureBy_88 : decode cX10_sureBy 88 = .ok (.getfield 13, 3) := by decide +kernel
theorem dX10_sureBy_91 : decode cX10_sureBy 91 = .ok (.iload_n 2, 1) := by decide +kernel
theorem dX10_sureBy_92 : decode cX10_sureBy 92 = .ok (.iaload, 1) := by decide +kernel
theorem dX10_sureBy_93 : decode cX10_sureBy 93 = .ok (.iload_n 1, 1) := by decide +kernel
theorem dX10_sureBy_94 : decode cX10_sureBy 94 = .ok (.invokestatic 163, 3) := by decide +kernel
theorem dX10_sureBy_97 : decode cX10_sureBy 97 = .ok (.isub, 1) := by decide +kernel
theorem dX10_sureBy_98 : decode cX10_sureBy 98 = .ok (.ireturn, 1) := by decide +kernel
theorem dX10_remember_0 : decode cX10_remember 0 = .ok (.aload_n 0, 1) := by decide +kernel
theorem dX10_remember_1 : decode cX10_remember 1 = .ok (.getfield 130, 3) := by decide +kernel
theorem dX10_remember_4 : decode cX10_remember 4 = .ok (.bipush 20, 2) := by decide +kernel
theorem dX10_remember_6 : decode cX10_remember 6 = .ok (.if_icmp .ne 44, 3) := by decide +kernel
theorem dX10_remember_9 : decode cX10_remember 9 = .ok (.bipush 81, 2) := by decide +kernel
theorem dX10_remember_11 : decode cX10_remember 11 = .ok (.istore_n 1, 1) := by decide +kernel
theorem dX10_remember_12 : decode cX10_remember 12 = .ok (.iload_n 1, 1) := by decide +kernel
theorem dX10_remember_13 : decode cX10_remember 13 = .ok (.sipush 1620, 3) := by decide +kernel
theorem dX10_remember_16 : decode cX10_remember 16 = .ok (.if_icmp .ge 24, 3) := by decide +kernel
theorem dX10_remember_19 : decode cX10_remember 19 = .ok (.aload_n 0, 1) := by decide +kernel
theorem dX10_remember_20 : decode cX10_remember 20 = .ok (.getfield 33, 3) := by decide +kernel
theorem dX10_remember_23 : decode cX10_remember 23 = .ok (.iload_n 1, 1) := by decide +kernel
theorem dX10_remember_24 : decode cX10_remember 24 = .ok (.bipush 81, 2) := by decide +kernel
theorem dX10_remember_26 : decode cX10_remember 26 = .ok (.isub, 1) := by decide +kernel
theorem dX10_remember_27 : decode cX10_remember 27 = .ok (.aload_n 0, 1) := by decide +kernel
theorem dX10_remember_28 : decode cX10_remember 28 = .ok (.getfield 33, 3) := by decide +kernel
theorem dX10_remember_31 : decode cX10_remember 31 = .ok (.iload_n 1, 1) := by decide +kernel
theorem dX10_remember_32 : decode cX10_remember 32 = .ok (.iaload, 1) := by decide +kernel
theorem dX10_remember_33 : decode cX10_remember 33 = .ok (.iastore, 1) := by decide +kernel
theorem dX10_remember_34 : decode cX10_remember 34 = .ok (.iinc 1 1, 3) := by decide +kernel
theorem dX10_remember_37 : decode cX10_remember 37 = .ok (.goto (-25), 3) := by decide +kernel
theorem dX10_remember_40 : decode cX10_remember 40 = .ok (.aload_n 0, 1) := by decide +kernel
theorem dX10_remember_41 : decode cX10_remember 41 = .ok (.dup, 1) := by decide +kernel
theorem dX10_remember_42 : decode cX10_remember 42 = .ok (.getfield 130, 3) := by decide +kernel
theorem dX10_remember_45 : decode cX10_remember 45 = .ok (.iconst 1, 1) := by decide +kernel
theorem dX10_remember_46 : decode cX10_remember 46 = .ok (.isub, 1) := by decide +kernel
theorem dX10_remember_47 : decode cX10_remember 47 = .ok (.putfield 130, 3) := by decide +kernel
theorem dX10_remember_50 : decode cX10_remember 50 = .ok (.iconst 0, 1) := by decide +kernel
theorem dX10_remember_51 : decode cX10_remember 51 = .ok (.istore_n 1, 1) := by decide +kernel
theorem dX10_remember_52 : decode cX10_remember 52 = .ok (.iload_n 1, 1) := by decide +kernel
theorem dX10_remember_53 : decode cX10_remember 53 = .ok (.bipush 81, 2) := by decide +kernel
theorem dX10_remember_55 : decode cX10_remember 55 = .ok (.if_icmp .ge 29, 3) := by decide +kernel
theorem dX10_remember_58 : decode cX10_remember 58 = .ok (.aload_n 0, 1) := by decide +kernel
theorem dX10_remember_59 : decode cX10_remember 59 = .ok (.getfield 33, 3) := by decide +kernel
theorem dX10_remember_62 : decode cX10_remember 62 = .ok (.bipush 81, 2) := by decide +kernel
theorem dX10_remember_64 : decode cX10_remember 64 = .ok (.aload_n 0, 1) := by decide +kernel
theorem dX10_remember_65 : decode cX10_remember 65 = .ok (.getfield 130, 3) := by decide +kernel
theorem dX10_remember_68 : decode cX10_remember 68 = .ok (.imul, 1) := by decide +kernel
theorem dX10_remember_69 : decode cX10_remember 69 = .ok (.iload_n 1, 1) := by decide +kernel
theorem dX10_remember_70 : decode cX10_remember 70 = .ok (.iadd, 1) := by decide +kernel
theorem dX10_remember_71 : decode cX10_remember 71 = .ok (.aload_n 0, 1) := by decide +kernel
theorem dX10_remember_72 : decode cX10_remember 72 = .ok (.getfield 13, 3) := by decide +kernel
theorem dX10_remember_75 : decode cX10_remember 75 = .ok (.iload_n 1, 1) := by decide +kernel
theorem dX10_remember_76 : decode cX10_remember 76 = .ok (.iaload, 1) := by decide +kernel
theorem dX10_remember_77 : decode cX10_remember 77 = .ok (.iastore, 1) := by decide +kernel
theorem dX10_remember_78 : decode cX10_remember 78 = .ok (.iinc 1 1, 3) := by decide +kernel
theorem dX10_remember_81 : decode cX10_remember 81 = .ok (.goto (-29), 3) := by decide +kernel
theorem dX10_remember_84 : decode cX10_remember 84 = .ok (.aload_n 0, 1) := by decide +kernel
theorem dX10_remember_85 : decode cX10_remember 85 = .ok (.dup, 1) := by decide +kernel
theorem dX10_remember_86 : decode cX10_remember 86 = .ok (.getfield 130, 3) := by decide +kernel
theorem dX10_remember_89 : decode cX10_remember 89 = .ok (.iconst 1, 1) := by decide +kernel
theorem dX10_remember_90 : decode cX10_remember 90 = .ok (.iadd, 1) := by decide +kernel
theorem dX10_remember_91 : decode cX10_remember 91 = .ok (.putfield 130, 3) := by decide +kernel
theorem dX10_remember_94 : decode cX10_remember 94 = .ok (.return_, 1) := by decide +kernel
theorem dX10_pass_0 : decode cX10_pass 0 = .ok (.iconst 0, 1) := by decide +kernel
theorem dX10_pass_1 : decode cX10_pass 1 = .ok (.istore_n 1, 1) := by decide +kernel
theorem dX10_pass_2 : decode cX10_pass 2 = .ok (.iload_n 1, 1) := by decide +kernel
theorem dX10_pass_3 : decode cX10_pass 3 = .ok (.aload_n 0, 1) := by decide +kernel
theorem dX10_pass_4 : decode cX10_pass 4 = .ok (.getfield 63, 3) := by decide +kernel
theorem dX10_pass_7 : decode cX10_pass 7 = .ok (.if_icmp .ge 54, 3) := by decide +kernel
theorem dX10_pass_10 : decode cX10_pass 10 = .ok (.aload_n 0, 1) := by decide +kernel
theorem dX10_pass_11 : decode cX10_pass 11 = .ok (.getfield 13, 3) := by decide +kernel
theorem dX10_pass_14 : decode cX10_pass 14 = .ok (.bipush 80, 2) := by decide +kernel
theorem dX10_pass_16 : decode cX10_pass 16 = .ok (.iaload, 1) := by decide +kernel
theorem dX10_pass_17 : decode cX10_pass 17 = .ok (.aload_n 0, 1) := by decide +kernel
theorem dX10_pass_18 : decode cX10_pass 18 = .ok (.getfield 7, 3) := by decide +kernel
theorem dX10_pass_21 : decode cX10_pass 21 = .ok (.iload_n 1, 1) := by decide +kernel
theorem dX10_pass_22 : decode cX10_pass 22 = .ok (.iaload, 1) := by decide +kernel
theorem dX10_pass_23 : decode cX10_pass 23 = .ok (.imul, 1) := by decide +kernel
theorem dX10_pass_24 : decode cX10_pass 24 = .ok (.iload_n 1, 1) := by decide +kernel
theorem dX10_pass_25 : decode cX10_pass 25 = .ok (.iadd, 1) := by decide +kernel
theorem dX10_pass_26 : decode cX10_pass 26 = .ok (.bipush 8, 2) := by decide +kernel
theorem dX10_pass_28 : decode cX10_pass 28 = .ok (.irem, 1) := by decide +kernel
theorem dX10_pass_29 : decode cX10_pass 29 = .ok (.istore_n 2, 1) := by decide +kernel
theorem dX10_pass_30 : decode cX10_pass 30 = .ok (.aload_n 0, 1) := by decide +kernel
theorem dX10_pass_31 : decode cX10_pass 31 = .ok (.getfield 13, 3) := by decide +kernel
theorem dX10_pass_34 : decode cX10_pass 34 = .ok (.iload_n 1, 1) := by decide +kernel
theorem dX10_pass_35 : decode cX10_pass 35 = .ok (.dup2, 1) := by decide +kernel
theorem dX10_pass_36 : decode cX10_pass 36 = .ok (.iaload, 1) := by decide +kernel
theorem dX10_pass_37 : decode cX10_pass 37 = .ok (.aload_n 0, 1) := by decide +kernel
theorem dX10_pass_38 : decode cX10_pass 38 = .ok (.getfield 7, 3) := by decide +kernel
theorem dX10_pass_41 : decode cX10_pass 41 = .ok (.iload_n 1, 1) := by decide +kernel
theorem dX10_pass_42 : decode cX10_pass 42 = .ok (.iaload, 1) := by decide +kernel
theorem dX10_pass_43 : decode cX10_pass 43 = .ok (.ifCond .le 9, 3) := by decide +kernel
theorem dX10_pass_46 : decode cX10_pass 46 = .ok (.iconst 1, 1) := by decide +kernel
theorem dX10_pass_47 : decode cX10_pass 47 = .ok (.iload_n 2, 1) := by decide +kernel
theorem dX10_pass_48 : decode cX10_pass 48 = .ok (.ishl, 1) := by decide +kernel
theorem dX10_pass_49 : decode cX10_pass 49 = .ok (.goto 4, 3) := by decide +kernel
theorem dX10_pass_52 : decode cX10_pass 52 = .ok (.iconst 0, 1) := by decide +kernel
theorem dX10_pass_53 : decode cX10_pass 53 = .ok (.ixor, 1) := by decide +kernel
theorem dX10_pass_54 : decode cX10_pass 54 = .ok (.iastore, 1) := by decide +kernel
theorem dX10_pass_55 : decode cX10_pass 55 = .ok (.iinc 1 1, 3) := by decide +kernel
theorem dX10_pass_58 : decode cX10_pass 58 = .ok (.goto (-56), 3) := by decide +kernel
theorem dX10_pass_61 : decode cX10_pass 61 = .ok (.aload_n 0, 1) := by decide +kernel
theorem dX10_pass_62 : decode cX10_pass 62 = .ok (.getfield 13, 3) := by decide +kernel
theorem dX10_pass_65 : decode cX10_pass 65 = .ok (.bipush 80, 2) := by decide +kernel
theorem dX10_pass_67 : decode cX10_pass 67 = .ok (.dup2, 1) := by decide +kernel
theorem dX10_pass_68 : decode cX10_pass 68 = .ok (.iaload, 1) := by decide +kernel
theorem dX10_pass_69 : decode cX10_pass 69 = .ok (.iconst 1, 1) := by decide +kernel
theorem dX10_pass_70 : decode cX10_pass 70 = .ok (.iadd, 1) := by decide +kernel
theorem dX10_pass_71 : decode cX10_pass 71 = .ok (.iastore, 1) := by decide +kernel
theorem dX10_pass_72 : decode cX10_pass 72 = .ok (.return_, 1) := by decide +kernel
theorem dX10_yearsRefused_0 : decode cX10_yearsRefused 0 = .ok (.iload_n 1, 1) := by decide +kernel
theorem dX10_yearsRefused_1 : decode cX10_yearsRefused 1 = .ok (.i2l, 1) := by decide +kernel
theorem dX10_yearsRefused_2 : decode cX10_yearsRefused 2 = .ok (.lconst 1, 1) := by decide +kernel
theorem dX10_yearsRefused_3 : decode cX10_yearsRefused 3 = .ok (.ldc2_w 169, 3) := by decide +kernel
theorem dX10_yearsRefused_6 : decode cX10_yearsRefused 6 = .ok (.invokestatic 66, 3) := by decide +kernel
theorem dX10_yearsRefused_9 : decode cX10_yearsRefused 9 = .ok (.ifCond .ne 6, 3) := by decide +kernel
theorem dX10_yearsRefused_12 : decode cX10_yearsRefused 12 = .ok (.ldc 76, 2) := by decide +kernel
theorem dX10_yearsRefused_14 : decode cX10_yearsRefused 14 = .ok (.ireturn, 1) := by decide +kernel
theorem dX10_yearsRefused_15 : decode cX10_yearsRefused 15 = .ok (.aload_n 0, 1) := by decide +kernel
theorem dX10_yearsRefused_16 : decode cX10_yearsRefused 16 = .ok (.getfield 63, 3) := by decide +kernel
theorem dX10_yearsRefused_19 : decode cX10_yearsRefused 19 = .ok (.ifCond .ne 8, 3) := by decide +kernel
theorem dX10_yearsRefused_22 : decode cX10_yearsRefused 22 = .ok (.ldc 171, 2) := by decide +kernel
theorem dX10_yearsRefused_24 : decode cX10_yearsRefused 24 = .ok (.goto 22, 3) := by decide +kernel
theorem dX10_yearsRefused_27 : decode cX10_yearsRefused 27 = .ok (.aload_n 0, 1) := by decide +kernel
theorem dX10_yearsRefused_28 : decode cX10_yearsRefused 28 = .ok (.getfield 13, 3) := by decide +kernel
theorem dX10_yearsRefused_31 : decode cX10_yearsRefused 31 = .ok (.bipush 80, 2) := by decide +kernel
theorem dX10_yearsRefused_33 : decode cX10_yearsRefused 33 = .ok (.iaload, 1) := by decide +kernel
theorem dX10_yearsRefused_34 : decode cX10_yearsRefused 34 = .ok (.sipush 9000, 3) := by decide +kernel
theorem dX10_yearsRefused_37 : decode cX10_yearsRefused 37 = .ok (.if_icmp .le 8, 3) := by decide +kernel
theorem dX10_yearsRefused_40 : decode cX10_yearsRefused 40 = .ok (.ldc 80, 2) := by decide +kernel
theorem dX10_yearsRefused_42 : decode cX10_yearsRefused 42 = .ok (.goto 4, 3) := by decide +kernel
theorem dX10_yearsRefused_45 : decode cX10_yearsRefused 45 = .ok (.iconst 0, 1) := by decide +kernel
theorem dX10_yearsRefused_46 : decode cX10_yearsRefused 46 = .ok (.ireturn, 1) := by decide +kernel
theorem dX10_year_0 : decode cX10_year 0 = .ok (.aload_n 0, 1) := by decide +kernel
theorem dX10_year_1 : decode cX10_year 1 = .ok (.iload_n 1, 1) := by decide +kernel
theorem dX10_year_2 : decode cX10_year 2 = .ok (.invokevirtual 172, 3) := by decide +kernel
theorem dX10_year_5 : decode cX10_year 5 = .ok (.istore_n 2, 1) := by decide +kernel
theorem dX10_year_6 : decode cX10_year 6 = .ok (.iload_n 2, 1) := by decide +kernel
theorem dX10_year_7 : decode cX10_year 7 = .ok (.ifCond .eq 5, 3) := by decide +kernel
theorem dX10_year_10 : decode cX10_year 10 = .ok (.iload_n 2, 1) := by decide +kernel
theorem dX10_year_11 : decode cX10_year 11 = .ok (.ireturn, 1) := by decide +kernel
theorem dX10_year_12 : decode cX10_year 12 = .ok (.aload_n 0, 1) := by decide +kernel
theorem dX10_year_13 : decode cX10_year 13 = .ok (.invokevirtual 175, 3) := by decide +kernel
theorem dX10_year_16 : decode cX10_year 16 = .ok (.iconst 0, 1) := by decide +kernel
theorem dX10_year_17 : decode cX10_year 17 = .ok (.istore_n 3, 1) := by decide +kernel
theorem dX10_year_18 : decode cX10_year 18 = .ok (.iload_n 3, 1) := by decide +kernel
theorem dX10_year_19 : decode cX10_year 19 = .ok (.iload_n 1, 1) := by decide +kernel
theorem dX10_year_20 : decode cX10_year 20 = .ok (.if_icmp .ge 13, 3) := by decide +kernel
theorem dX10_year_23 : decode cX10_year 23 = .ok (.aload_n 0, 1) := by decide +kernel
theorem dX10_year_24 : decode cX10_year 24 = .ok (.invokevirtual 178, 3) := by decide +kernel
theorem dX10_year_27 : decode cX10_year 27 = .ok (.iinc 3 1, 3) := by decide +kernel
theorem dX10_year_30 : decode cX10_year 30 = .ok (.goto (-12), 3) := by decide +kernel
theorem dX10_year_33 : decode cX10_year 33 = .ok (.aload_n 0, 1) := by decide +kernel
theorem dX10_year_34 : decode cX10_year 34 = .ok (.getfield 13, 3) := by decide +kernel
theorem dX10_year_37 : decode cX10_year 37 = .ok (.bipush 80, 2) := by decide +kernel
theorem dX10_year_39 : decode cX10_year 39 = .ok (.iaload, 1) := by decide +kernel
theorem dX10_year_40 : decode cX10_year 40 = .ok (.ireturn, 1) := by decide +kernel
theorem dX10_meet_0 : decode cX10_meet 0 = .ok (.aload_n 0, 1) := by decide +kernel
theorem dX10_meet_1 : decode cX10_meet 1 = .ok (.iload_n 1, 1) := by decide +kernel
theorem dX10_meet_2 : decode cX10_meet 2 = .ok (.iload_n 2, 1) := by decide +kernel
theorem dX10_meet_3 : decode cX10_meet 3 = .ok (.invokevirtual 156, 3) := by decide +kernel
theorem dX10_meet_6 : decode cX10_meet 6 = .ok (.ifCond .ne 6, 3) := by decide +kernel
theorem dX10_meet_9 : decode cX10_meet 9 = .ok (.ldc 152, 2) := by decide +kernel
theorem dX10_meet_11 : decode cX10_meet 11 = .ok (.ireturn, 1) := by decide +kernel
theorem dX10_meet_12 : decode cX10_meet 12 = .ok (.aload_n 0, 1) := by decide +kernel
theorem dX10_meet_13 : decode cX10_meet 13 = .ok (.invokevirtual 175, 3) := by decide +kernel
theorem dX10_meet_16 : decode cX10_meet 16 = .ok (.aload_n 0, 1) := by decide +kernel
theorem dX10_meet_17 : decode cX10_meet 17 = .ok (.iload_n 1, 1) := by decide +kernel
theorem dX10_meet_18 : decode cX10_meet 18 = .ok (.iload_n 2, 1) := by decide +kernel
theorem dX10_meet_19 : decode cX10_meet 19 = .ok (.invokevirtual 133, 3) := by decide +kernel
theorem dX10_meet_22 : decode cX10_meet 22 = .ok (.istore_n 3, 1) := by decide +kernel
theorem dX10_meet_23 : decode cX10_meet 23 = .ok (.aload_n 0, 1) := by decide +kernel
theorem dX10_meet_24 : decode cX10_meet 24 = .ok (.getfield 13, 3) := by decide +kernel
theorem dX10_meet_27 : decode cX10_meet 27 = .ok (.bipush 16, 2) := by decide +kernel
theorem dX10_meet_29 : decode cX10_meet 29 = .ok (.bipush 8, 2) := by decide +kernel
theorem dX10_meet_31 : decode cX10_meet 31 = .ok (.iload_n 1, 1) := by decide +kernel
theorem dX10_meet_32 : decode cX10_meet 32 = .ok (.imul, 1) := by decide +kernel
theorem dX10_meet_33 : decode cX10_meet 33 = .ok (.iadd, 1) := by decide +kernel
theorem dX10_meet_34 : decode cX10_meet 34 = .ok (.iload_n 2, 1) := by decide +kernel
theorem dX10_meet_35 : decode cX10_meet 35 = .ok (.iadd, 1) := by decide +kernel
theorem dX10_meet_36 : decode cX10_meet 36 = .ok (.aload_n 0, 1) := by decide +kernel
theorem dX10_meet_37 : decode cX10_meet 37 = .ok (.getfield 13, 3) := by decide +kernel
theorem dX10_meet_40 : decode cX10_meet 40 = .ok (.iload_n 2, 1) := by decide +kernel
theorem dX10_meet_41 : decode cX10_meet 41 = .ok (.iaload, 1) := by decide +kernel
theorem dX10_meet_42 : decode cX10_meet 42 = .ok (.iastore, 1) := by decide +kernel
theorem dX10_meet_43 : decode cX10_meet 43 = .ok (.iload_n 3, 1) := by decide +kernel
theorem dX10_meet_44 : decode cX10_meet 44 = .ok (.ifCond .ge 7, 3) := by decide +kernel
theorem dX10_meet_47 : decode cX10_meet 47 = .ok (.iconst (-1), 1) := by decide +kernel
theorem dX10_meet_48 : decode cX10_meet 48 = .ok (.goto 13, 3) := by decide +kernel
theorem dX10_meet_51 : decode cX10_meet 51 = .ok (.iload_n 3, 1) := by decide +kernel
theorem dX10_meet_52 : decode cX10_meet 52 = .ok (.aload_n 0, 1) := by decide +kernel
theorem dX10_meet_53 : decode cX10_meet 53 = .ok (.getfield 13, 3) := by decide +kernel
theorem dX10_meet_56 : decode cX10_meet 56 = .ok (.iload_n 2, 1) := by decide +kernel
theorem dX10_meet_57 : decode cX10_meet 57 = .ok (.iaload, 1) := by decide +kernel
theorem dX10_meet_58 : decode cX10_meet 58 = .ok (.invokestatic 163, 3) := by decide +kernel
theorem dX10_meet_61 : decode cX10_meet 61 = .ok (.ireturn, 1) := by decide +kernel
theorem dX10_forget_0 : decode cX10_forget 0 = .ok (.aload_n 0, 1) := by decide +kernel
theorem dX10_forget_1 : decode cX10_forget 1 = .ok (.iload_n 1, 1) := by decide +kernel
theorem dX10_forget_2 : decode cX10_forget 2 = .ok (.iload_n 2, 1) := by decide +kernel
theorem dX10_forget_3 : decode cX10_forget 3 = .ok (.invokevirtual 156, 3) := by decide +kernel
theorem dX10_forget_6 : decode cX10_forget 6 = .ok (.ifCond .ne 6, 3) := by decide +kernel
theorem dX10_forget_9 : decode cX10_forget 9 = .ok (.ldc 152, 2) := by decide +kernel
theorem dX10_forget_11 : decode cX10_forget 11 = .ok (.ireturn, 1) := by decide +kernel
theorem dX10_forget_12 : decode cX10_forget 12 = .ok (.aload_n 0, 1) := by decide +kernel
theorem dX10_forget_13 : decode cX10_forget 13 = .ok (.iload_n 1, 1) := by decide +kernel
theorem dX10_forget_14 : decode cX10_forget 14 = .ok (.iload_n 2, 1) := by decide +kernel
theorem dX10_forget_15 : decode cX10_forget 15 = .ok (.invokevirtual 133, 3) := by decide +kernel
theorem dX10_forget_18 : decode cX10_forget 18 = .ok (.istore_n 3, 1) := by decide +kernel
theorem dX10_forget_19 : decode cX10_forget 19 = .ok (.iload_n 3, 1) := by decide +kernel
theorem dX10_forget_20 : decode cX10_forget 20 = .ok (.ifCond .ge 6, 3) := by decide +kernel
theorem dX10_forget_23 : decode cX10_forget 23 = .ok (.ldc 171, 2) := by decide +kernel
theorem dX10_forget_25 : decode cX10_forget 25 = .ok (.ireturn, 1) := by decide +kernel
theorem dX10_forget_26 : decode cX10_forget 26 = .ok (.aload_n 0, 1) := by decide +kernel
theorem dX10_forget_27 : decode cX10_forget 27 = .ok (.invokevirtual 175, 3) := by decide +kernel
theorem dX10_forget_30 : decode cX10_forget 30 = .ok (.aload_n 0, 1) := by decide +kernel
theorem dX10_forget_31 : decode cX10_forget 31 = .ok (.getfield 13, 3) := by decide +kernel
theorem dX10_forget_34 : decode cX10_forget 34 = .ok (.bipush 16, 2) := by decide +kernel
theorem dX10_forget_36 : decode cX10_forget 36 = .ok (.bipush 8, 2) := by decide +kernel
theorem dX10_forget_38 : decode cX10_forget 38 = .ok (.iload_n 1, 1) := by decide +kernel
theorem dX10_forget_39 : decode cX10_forget 39 = .ok (.imul, 1) := by decide +kernel
theorem dX10_forget_40 : decode cX10_forget 40 = .ok (.iadd, 1) := by decide +kernel
theorem dX10_forget_41 : decode cX10_forget 41 = .ok (.iload_n 2, 1) := by decide +kernel
theorem dX10_forget_42 : decode cX10_forget 42 = .ok (.iadd, 1) := by decide +kernel
theorem dX10_forget_43 : decode cX10_forget 43 = .ok (.iconst (-1), 1) := by decide +kernel
theorem dX10_forget_44 : decode cX10_forget 44 = .ok (.iastore, 1) := by decide +kernel
theorem dX10_forget_45 : decode cX10_forget 45 = .ok (.iload_n 3, 1) := by decide +kernel
theorem dX10_forget_46 : decode cX10_forget 46 = .ok (.ireturn, 1) := by decide +kernel
theorem dX10_rowRefused_0 : decode cX10_rowRefused 0 = .ok (.aload_n 0, 1) := by decide +kernel
theorem dX10_rowRefused_1 : decode cX10_rowRefused 1 = .ok (.iload_n 1, 1) := by decide +kernel
theorem dX10_rowRefused_2 : decode cX10_rowRefused 2 = .ok (.iload_n 2, 1) := by decide +kernel
theorem dX10_rowRefused_3 : decode cX10_rowRefused 3 = .ok (.invokevirtual 156, 3) := by decide +kernel
theorem dX10_rowRefused_6 : decode cX10_rowRefused 6 = .ok (.ifCond .eq 19, 3) := by decide +kernel
theorem dX10_rowRefused_9 : decode cX10_rowRefused 9 = .ok (.aload_n 0, 1) := by decide +kernel
theorem dX10_rowRefused_10 : decode cX10_rowRefused 10 = .ok (.iload_n 3, 1) := by decide +kernel
theorem dX10_rowRefused_11 : decode cX10_rowRefused 11 = .ok (.invokevirtual 181, 3) := by decide +kernel
theorem dX10_rowRefused_14 : decode cX10_rowRefused 14 = .ok (.ifCond .eq 11, 3) := by decide +kernel
theorem dX10_rowRefused_17 : decode cX10_rowRefused 17 = .ok (.iload_n 3, 1) := by decide +kernel
theorem dX10_rowRefused_18 : decode cX10_rowRefused 18 = .ok (.iload_n 1, 1) := by decide +kernel
theorem dX10_rowRefused_19 : decode cX10_rowRefused 19 = .ok (.invokestatic 160, 3) := by decide +kernel
theorem dX10_rowRefused_22 : decode cX10_rowRefused 22 = .ok (.ifCond .eq 6, 3) := by decide +kernel
theorem dX10_rowRefused_25 : decode cX10_rowRefused 25 = .ok (.ldc 152, 2) := by decide +kernel
theorem dX10_rowRefused_27 : decode cX10_rowRefused 27 = .ok (.ireturn, 1) := by decide +kernel
theorem dX10_rowRefused_28 : decode cX10_rowRefused 28 = .ok (.iload_n 3, 1) := by decide +kernel
theorem dX10_rowRefused_29 : decode cX10_rowRefused 29 = .ok (.invokestatic 140, 3) := by decide +kernel
theorem dX10_rowRefused_32 : decode cX10_rowRefused 32 = .ok (.iconst 2, 1) := by decide +kernel
theorem dX10_rowRefused_33 : decode cX10_rowRefused 33 = .ok (.if_icmp .ge 8, 3) := by decide +kernel
theorem dX10_rowRefused_36 : decode cX10_rowRefused 36 = .ok (.ldc 76, 2) := by decide +kernel
theorem dX10_rowRefused_38 : decode cX10_rowRefused 38 = .ok (.goto 4, 3) := by decide +kernel
theorem dX10_rowRefused_41 : decode cX10_rowRefused 41 = .ok (.iconst 0, 1) := by decide +kernel
theorem dX10_rowRefused_42 : decode cX10_rowRefused 42 = .ok (.ireturn, 1) := by decide +kernel
theorem dX10_unknownTo_0 : decode cX10_unknownTo 0 = .ok (.aload_n 0, 1) := by decide +kernel
theorem dX10_unknownTo_1 : decode cX10_unknownTo 1 = .ok (.iload_n 1, 1) := by decide +kernel
theorem dX10_unknownTo_2 : decode cX10_unknownTo 2 = .ok (.iload_n 2, 1) := by decide +kernel
theorem dX10_unknownTo_3 : decode cX10_unknownTo 3 = .ok (.invokevirtual 133, 3) := by decide +kernel
theorem dX10_unknownTo_6 : decode cX10_unknownTo 6 = .ok (.ifCond .ge 8, 3) := by decide +kernel
theorem dX10_unknownTo_9 : decode cX10_unknownTo 9 = .ok (.ldc 171, 2) := by decide +kernel
theorem dX10_unknownTo_11 : decode cX10_unknownTo 11 = .ok (.goto 4, 3) := by decide +kernel
theorem dX10_unknownTo_14 : decode cX10_unknownTo 14 = .ok (.iconst 0, 1) := by decide +kernel
theorem dX10_unknownTo_15 : decode cX10_unknownTo 15 = .ok (.ireturn, 1) := by decide +kernel
theorem dX10_parade_0 : decode cX10_parade 0 = .ok (.aload_n 0, 1) := by decide +kernel
theorem dX10_parade_1 : decode cX10_parade 1 = .ok (.iload_n 1, 1) := by decide +kernel
theorem dX10_parade_2 : decode cX10_parade 2 = .ok (.iload_n 2, 1) := by decide +kernel
theorem dX10_parade_3 : decode cX10_parade 3 = .ok (.iload_n 3, 1) := by decide +kernel
theorem dX10_parade_4 : decode cX10_parade 4 = .ok (.invokevirtual 184, 3) := by decide +kernel
theorem dX10_parade_7 : decode cX10_parade 7 = .ok (.istore 4, 2) := by decide +kernel
theorem dX10_parade_9 : decode cX10_parade 9 = .ok (.iload 4, 2) := by decide +kernel
theorem dX10_parade_11 : decode cX10_parade 11 = .ok (.ifCond .eq 8, 3) := by decide +kernel
theorem dX10_parade_14 : decode cX10_parade 14 = .ok (.iload 4, 2) := by decide +kernel
theorem dX10_parade_16 : decode cX10_parade 16 = .ok (.goto 9, 3) := by decide +kernel
theorem dX10_parade_19 : decode cX10_parade 19 = .ok (.aload_n 0, 1) := by decide +kernel
theorem dX10_parade_20 : decode cX10_parade 20 = .ok (.iload_n 1, 1) := by decide +kernel
theorem dX10_parade_21 : decode cX10_parade 21 = .ok (.iload_n 2, 1) := by decide +kernel
theorem dX10_parade_22 : decode cX10_parade 22 = .ok (.invokevirtual 188, 3) := by decide +kernel
theorem dX10_parade_25 : decode cX10_parade 25 = .ok (.istore 4, 2) := by decide +kernel
theorem dX10_parade_27 : decode cX10_parade 27 = .ok (.iload 4, 2) := by decide +kernel
theorem dX10_parade_29 : decode cX10_parade 29 = .ok (.ifCond .eq 6, 3) := by decide +kernel
theorem dX10_parade_32 : decode cX10_parade 32 = .ok (.iload 4, 2) := by decide +kernel
theorem dX10_parade_34 : decode cX10_parade 34 = .ok (.ireturn, 1) := by decide +kernel
theorem dX10_parade_35 : decode cX10_parade 35 = .ok (.aload_n 0, 1) := by decide +kernel
theorem dX10_parade_36 : decode cX10_parade 36 = .ok (.invokevirtual 175, 3) := by decide +kernel
theorem dX10_parade_39 : decode cX10_parade 39 = .ok (.aload_n 0, 1) := by decide +kernel
theorem dX10_parade_40 : decode cX10_parade 40 = .ok (.aload_n 0, 1) := by decide +kernel
theorem dX10_parade_41 : decode cX10_parade 41 = .ok (.iload_n 1, 1) := by decide +kernel
theorem dX10_parade_42 : decode cX10_parade 42 = .ok (.iload_n 2, 1) := by decide +kernel
theorem dX10_parade_43 : decode cX10_parade 43 = .ok (.invokevirtual 133, 3) := by decide +kernel
theorem dX10_parade_46 : decode cX10_parade 46 = .ok (.iload_n 3, 1) := by decide +kernel
theorem dX10_parade_47 : decode cX10_parade 47 = .ok (.invokevirtual 166, 3) := by decide +kernel
theorem dX10_parade_50 : decode cX10_parade 50 = .ok (.istore 5, 2) := by decide +kernel
theorem dX10_parade_52 : decode cX10_parade 52 = .ok (.aload_n 0, 1) := by decide +kernel
theorem dX10_parade_53 : decode cX10_parade 53 = .ok (.getfield 13, 3) := by decide +kernel
theorem dX10_parade_56 : decode cX10_parade 56 = .ok (.bipush 8, 2) := by decide +kernel
theorem dX10_parade_58 : decode cX10_parade 58 = .ok (.iload 5, 2) := by decide +kernel
theorem dX10_parade_60 : decode cX10_parade 60 = .ok (.iadd, 1) := by decide +kernel
theorem dX10_parade_61 : decode cX10_parade 61 = .ok (.iload_n 2, 1) := by decide +kernel
theorem dX10_parade_62 : decode cX10_parade 62 = .ok (.iastore, 1) := by decide +kernel
theorem dX10_parade_63 : decode cX10_parade 63 = .ok (.iload 5, 2) := by decide +kernel
theorem dX10_parade_65 : decode cX10_parade 65 = .ok (.ireturn, 1) := by decide +kernel
theorem dX10_mark_0 : decode cX10_mark 0 = .ok (.aload_n 0, 1) := by decide +kernel
theorem dX10_mark_1 : decode cX10_mark 1 = .ok (.iload_n 1, 1) := by decide +kernel
theorem dX10_mark_2 : decode cX10_mark 2 = .ok (.invokevirtual 70, 3) := by decide +kernel
theorem dX10_mark_5 : decode cX10_mark 5 = .ok (.ifCond .ne 6, 3) := by decide +kernel
theorem dX10_mark_8 : decode cX10_mark 8 = .ok (.ldc 152, 2) := by decide +kernel
theorem dX10_mark_10 : decode cX10_mark 10 = .ok (.ireturn, 1) := by decide +kernel
theorem dX10_mark_11 : decode cX10_mark 11 = .ok (.iload_n 2, 1) := by decide +kernel
theorem dX10_mark_12 : decode cX10_mark 12 = .ok (.i2l, 1) := by decide +kernel
theorem dX10_mark_13 : decode cX10_mark 13 = .ok (.lconst 0, 1) := by decide +kernel
theorem dX10_mark_14 : decode cX10_mark 14 = .ok (.ldc2_w 191, 3) := by decide +kernel
theorem dX10_mark_17 : decode cX10_mark 17 = .ok (.invokestatic 66, 3) := by decide +kernel
theorem dX10_mark_20 : decode cX10_mark 20 = .ok (.ifCond .ne 6, 3) := by decide +kernel
theorem dX10_mark_23 : decode cX10_mark 23 = .ok (.ldc 76, 2) := by decide +kernel
theorem dX10_mark_25 : decode cX10_mark 25 = .ok (.ireturn, 1) := by decide +kernel
theorem dX10_mark_26 : decode cX10_mark 26 = .ok (.aload_n 0, 1) := by decide +kernel
theorem dX10_mark_27 : decode cX10_mark 27 = .ok (.invokevirtual 175, 3) := by decide +kernel
theorem dX10_mark_30 : decode cX10_mark 30 = .ok (.aload_n 0, 1) := by decide +kernel
theorem dX10_mark_31 : decode cX10_mark 31 = .ok (.getfield 13, 3) := by decide +kernel
theorem dX10_mark_34 : decode cX10_mark 34 = .ok (.iload_n 1, 1) := by decide +kernel
theorem dX10_mark_35 : decode cX10_mark 35 = .ok (.dup2, 1) := by decide +kernel
theorem dX10_mark_36 : decode cX10_mark 36 = .ok (.iaload, 1) := by decide +kernel
theorem dX10_mark_37 : decode cX10_mark 37 = .ok (.iconst 1, 1) := by decide +kernel
theorem dX10_mark_38 : decode cX10_mark 38 = .ok (.iload_n 2, 1) := by decide +kernel
theorem dX10_mark_39 : decode cX10_mark 39 = .ok (.ishl, 1) := by decide +kernel
theorem dX10_mark_40 : decode cX10_mark 40 = .ok (.ixor, 1) := by decide +kernel
theorem dX10_mark_41 : decode cX10_mark 41 = .ok (.iastore, 1) := by decide +kernel
theorem dX10_mark_42 : decode cX10_mark 42 = .ok (.aload_n 0, 1) := by decide +kernel
theorem dX10_mark_43 : decode cX10_mark 43 = .ok (.getfield 13, 3) := by decide +kernel
theorem dX10_mark_46 : decode cX10_mark 46 = .ok (.iload_n 1, 1) := by decide +kernel
theorem dX10_mark_47 : decode cX10_mark 47 = .ok (.iaload, 1) := by decide +kernel
theorem dX10_mark_48 : decode cX10_mark 48 = .ok (.ireturn, 1) := by decide +kernel
theorem dX10_draw_0 : decode cX10_draw 0 = .ok (.aload_n 0, 1) := by decide +kernel
theorem dX10_draw_1 : decode cX10_draw 1 = .ok (.aload_n 0, 1) := by decide +kernel
theorem dX10_draw_2 : decode cX10_draw 2 = .ok (.getfield 193, 3) := by decide +kernel
theorem dX10_draw_5 : decode cX10_draw 5 = .ok (.i2l, 1) := by decide +kernel
theorem dX10_draw_6 : decode cX10_draw 6 = .ok (.ldc2_w 196, 3) := by decide +kernel
theorem dX10_draw_9 : decode cX10_draw 9 = .ok (.lmul, 1) := by decide +kernel
theorem dX10_draw_10 : decode cX10_draw 10 = .ok (.ldc2_w 198, 3) := by decide +kernel
theorem dX10_draw_13 : decode cX10_draw 13 = .ok (.ladd, 1) := by decide +kernel
theorem dX10_draw_14 : decode cX10_draw 14 = .ok (.ldc2_w 200, 3) := by decide +kernel
theorem dX10_draw_17 : decode cX10_draw 17 = .ok (.lrem, 1) := by decide +kernel
theorem dX10_draw_18 : decode cX10_draw 18 = .ok (.l2i, 1) := by decide +kernel
theorem dX10_draw_19 : decode cX10_draw 19 = .ok (.putfield 193, 3) := by decide +kernel
theorem dX10_draw_22 : decode cX10_draw 22 = .ok (.aload_n 0, 1) := by decide +kernel
theorem dX10_draw_23 : decode cX10_draw 23 = .ok (.getfield 193, 3) := by decide +kernel
theorem dX10_draw_26 : decode cX10_draw 26 = .ok (.ldc 202, 2) := by decide +kernel
theorem dX10_draw_28 : decode cX10_draw 28 = .ok (.idiv, 1) := by decide +kernel
theorem dX10_draw_29 : decode cX10_draw 29 = .ok (.iload_n 1, 1) := by decide +kernel
theorem dX10_draw_30 : decode cX10_draw 30 = .ok (.irem, 1) := by decide +kernel
theorem dX10_draw_31 : decode cX10_draw 31 = .ok (.ireturn, 1) := by decide +kernel
theorem dX10_drift_0 : decode cX10_drift 0 = .ok (.aload_n 0, 1) := by decide +kernel
theorem dX10_drift_1 : decode cX10_drift 1 = .ok (.iload_n 1, 1) := by decide +kernel
theorem dX10_drift_2 : decode cX10_drift 2 = .ok (.invokevirtual 172, 3) := by decide +kernel
theorem dX10_drift_5 : decode cX10_drift 5 = .ok (.istore_n 2, 1) := by decide +kernel
theorem dX10_drift_6 : decode cX10_drift 6 = .ok (.iload_n 2, 1) := by decide +kernel
theorem dX10_drift_7 : decode cX10_drift 7 = .ok (.ifCond .eq 5, 3) := by decide +kernel
theorem dX10_drift_10 : decode cX10_drift 10 = .ok (.iload_n 2, 1) := by decide +kernel
theorem dX10_drift_11 : decode cX10_drift 11 = .ok (.ireturn, 1) := by decide +kernel
theorem dX10_drift_12 : decode cX10_drift 12 = .ok (.aload_n 0, 1) := by decide +kernel
theorem dX10_drift_13 : decode cX10_drift 13 = .ok (.invokevirtual 175, 3) := by decide +kernel
theorem dX10_drift_16 : decode cX10_drift 16 = .ok (.iconst 0, 1) := by decide +kernel
theorem dX10_drift_17 : decode cX10_drift 17 = .ok (.istore_n 3, 1) := by decide +kernel
theorem dX10_drift_18 : decode cX10_drift 18 = .ok (.iload_n 3, 1) := by decide +kernel
theorem dX10_drift_19 : decode cX10_drift 19 = .ok (.iload_n 1, 1) := by decide +kernel
theorem dX10_drift_20 : decode cX10_drift 20 = .ok (.if_icmp .ge 67, 3) := by decide +kernel
theorem dX10_drift_23 : decode cX10_drift 23 = .ok (.aload_n 0, 1) := by decide +kernel
theorem dX10_drift_24 : decode cX10_drift 24 = .ok (.aload_n 0, 1) := by decide +kernel
theorem dX10_drift_25 : decode cX10_drift 25 = .ok (.getfield 63, 3) := by decide +kernel
theorem dX10_drift_28 : decode cX10_drift 28 = .ok (.invokevirtual 203, 3) := by decide +kernel
theorem dX10_drift_31 : decode cX10_drift 31 = .ok (.istore 4, 2) := by decide +kernel
theorem dX10_drift_33 : decode cX10_drift 33 = .ok (.aload_n 0, 1) := by decide +kernel
theorem dX10_drift_34 : decode cX10_drift 34 = .ok (.aload_n 0, 1) := by decide +kernel
theorem dX10_drift_35 : decode cX10_drift 35 = .ok (.getfield 63, 3) := by decide +kernel
theorem dX10_drift_38 : decode cX10_drift 38 = .ok (.invokevirtual 203, 3) := by decide +kernel
theorem dX10_drift_41 : decode cX10_drift 41 = .ok (.istore 5, 2) := by decide +kernel
theorem dX10_drift_43 : decode cX10_drift 43 = .ok (.aload_n 0, 1) := by decide +kernel
theorem dX10_drift_44 : decode cX10_drift 44 = .ok (.getfield 13, 3) := by decide +kernel
theorem dX10_drift_47 : decode cX10_drift 47 = .ok (.bipush 16, 2) := by decide +kernel
theorem dX10_drift_49 : decode cX10_drift 49 = .ok (.bipush 8, 2) := by decide +kernel
theorem dX10_drift_51 : decode cX10_drift 51 = .ok (.iload 4, 2) := by decide +kernel
theorem dX10_drift_53 : decode cX10_drift 53 = .ok (.imul, 1) := by decide +kernel
theorem dX10_drift_54 : decode cX10_drift 54 = .ok (.iadd, 1) := by decide +kernel
theorem dX10_drift_55 : decode cX10_drift 55 = .ok (.iload 5, 2) := by decide +kernel
theorem dX10_drift_57 : decode cX10_drift 57 = .ok (.iadd, 1) := by decide +kernel
theorem dX10_drift_58 : decode cX10_drift 58 = .ok (.iload 4, 2) := by decide +kernel
theorem dX10_drift_60 : decode cX10_drift 60 = .ok (.iload 5, 2) := by decide +kernel
theorem dX10_drift_62 : decode cX10_drift 62 = .ok (.if_icmp .ne 7, 3) := by decide +kernel
theorem dX10_drift_65 : decode cX10_drift 65 = .ok (.iconst (-1), 1) := by decide +kernel
theorem dX10_drift_66 : decode cX10_drift 66 = .ok (.goto 10, 3) := by decide +kernel
theorem dX10_drift_69 : decode cX10_drift 69 = .ok (.aload_n 0, 1) := by decide +kernel
theorem dX10_drift_70 : decode cX10_drift 70 = .ok (.getfield 13, 3) := by decide +kernel
theorem dX10_drift_73 : decode cX10_drift 73 = .ok (.iload 5, 2) := by decide +kernel
theorem dX10_drift_75 : decode cX10_drift 75 = .ok (.iaload, 1) := by decide +kernel
theorem dX10_drift_76 : decode cX10_drift 76 = .ok (.iastore, 1) := by decide +kernel
theorem dX10_drift_77 : decode cX10_drift 77 = .ok (.aload_n 0, 1) := by decide +kernel
theorem dX10_drift_78 : decode cX10_drift 78 = .ok (.invokevirtual 178, 3) := by decide +kernel
theorem dX10_drift_81 : decode cX10_drift 81 = .ok (.iinc 3 1, 3) := by decide +kernel
theorem dX10_drift_84 : decode cX10_drift 84 = .ok (.goto (-66), 3) := by decide +kernel
theorem dX10_drift_87 : decode cX10_drift 87 = .ok (.aload_n 0, 1) := by decide +kernel
theorem dX10_drift_88 : decode cX10_drift 88 = .ok (.getfield 13, 3) := by decide +kernel
theorem dX10_drift_91 : decode cX10_drift 91 = .ok (.bipush 80, 2) := by decide +kernel
theorem dX10_drift_93 : decode cX10_drift 93 = .ok (.iaload, 1) := by decide +kernel
theorem dX10_drift_94 : decode cX10_drift 94 = .ok (.ireturn, 1) := by decide +kernel
theorem dX10_undo_0 : decode cX10_undo 0 = .ok (.aload_n 0, 1) := by decide +kernel
theorem dX10_undo_1 : decode cX10_undo 1 = .ok (.getfield 130, 3) := by decide +kernel
theorem dX10_undo_4 : decode cX10_undo 4 = .ok (.ifCond .ne 6, 3) := by decide +kernel
theorem dX10_undo_7 : decode cX10_undo 7 = .ok (.ldc 171, 2) := by decide +kernel
theorem dX10_undo_9 : decode cX10_undo 9 = .ok (.ireturn, 1) := by decide +kernel
theorem dX10_undo_10 : decode cX10_undo 10 = .ok (.aload_n 0, 1) := by decide +kernel
theorem dX10_undo_11 : decode cX10_undo 11 = .ok (.dup, 1) := by decide +kernel
theorem dX10_undo_12 : decode cX10_undo 12 = .ok (.getfield 130, 3) := by decide +kernel
theorem dX10_undo_15 : decode cX10_undo 15 = .ok (.iconst 1, 1) := by decide +kernel
theorem dX10_undo_16 : decode cX10_undo 16 = .ok (.isub, 1) := by decide +kernel
theorem dX10_undo_17 : decode cX10_undo 17 = .ok (.putfield 130, 3) := by decide +kernel
theorem dX10_undo_20 : decode cX10_undo 20 = .ok (.iconst 0, 1) := by decide +kernel
theorem dX10_undo_21 : decode cX10_undo 21 = .ok (.istore_n 1, 1) := by decide +kernel
theorem dX10_undo_22 : decode cX10_undo 22 = .ok (.iload_n 1, 1) := by decide +kernel
theorem dX10_undo_23 : decode cX10_undo 23 = .ok (.bipush 81, 2) := by decide +kernel
theorem dX10_undo_25 : decode cX10_undo 25 = .ok (.if_icmp .ge 29, 3) := by decide +kernel
theorem dX10_undo_28 : decode cX10_undo 28 = .ok (.aload_n 0, 1) := by decide +kernel
theorem dX10_undo_29 : decode cX10_undo 29 = .ok (.getfield 13, 3) := by decide +kernel
theorem dX10_undo_32 : decode cX10_undo 32 = .ok (.iload_n 1, 1) := by decide +kernel
theorem dX10_undo_33 : decode cX10_undo 33 = .ok (.aload_n 0, 1) := by decide +kernel
theorem dX10_undo_34 : decode cX10_undo 34 = .ok (.getfield 33, 3) := by decide +kernel
theorem dX10_undo_37 : decode cX10_undo 37 = .ok (.bipush 81, 2) := by decide +kernel
theorem dX10_undo_39 : decode cX10_undo 39 = .ok (.aload_n 0, 1) := by decide +kernel
theorem dX10_undo_40 : decode cX10_undo 40 = .ok (.getfield 130, 3) := by decide +kernel
theorem dX10_undo_43 : decode cX10_undo 43 = .ok (.imul, 1) := by decide +kernel
theorem dX10_undo_44 : decode cX10_undo 44 = .ok (.iload_n 1, 1) := by decide +kernel
theorem dX10_undo_45 : decode cX10_undo 45 = .ok (.iadd, 1) := by decide +kernel
theorem dX10_undo_46 : decode cX10_undo 46 = .ok (.iaload, 1) := by decide +kernel
theorem dX10_undo_47 : decode cX10_undo 47 = .ok (.iastore, 1) := by decide +kernel
theorem dX10_undo_48 : decode cX10_undo 48 = .ok (.iinc 1 1, 3) := by decide +kernel
theorem dX10_undo_51 : decode cX10_undo 51 = .ok (.goto (-29), 3) := by decide +kernel
theorem dX10_undo_54 : decode cX10_undo 54 = .ok (.aload_n 0, 1) := by decide +kernel
theorem dX10_undo_55 : decode cX10_undo 55 = .ok (.getfield 130, 3) := by decide +kernel
theorem dX10_undo_58 : decode cX10_undo 58 = .ok (.ireturn, 1) := by decide +kernel
theorem dX10_sure_0 : decode cX10_sure 0 = .ok (.aload_n 0, 1) := by decide +kernel
theorem dX10_sure_1 : decode cX10_sure 1 = .ok (.iload_n 1, 1) := by decide +kernel
theorem dX10_sure_2 : decode cX10_sure 2 = .ok (.iload_n 2, 1) := by decide +kernel
theorem dX10_sure_3 : decode cX10_sure 3 = .ok (.iload_n 3, 1) := by decide +kernel
theorem dX10_sure_4 : decode cX10_sure 4 = .ok (.invokevirtual 184, 3) := by decide +kernel
theorem dX10_sure_7 : decode cX10_sure 7 = .ok (.istore 4, 2) := by decide +kernel
theorem dX10_sure_9 : decode cX10_sure 9 = .ok (.iload 4, 2) := by decide +kernel
theorem dX10_sure_11 : decode cX10_sure 11 = .ok (.ifCond .ne 16, 3) := by decide +kernel
theorem dX10_sure_14 : decode cX10_sure 14 = .ok (.iload_n 3, 1) := by decide +kernel
theorem dX10_sure_15 : decode cX10_sure 15 = .ok (.iload_n 2, 1) := by decide +kernel
theorem dX10_sure_16 : decode cX10_sure 16 = .ok (.invokestatic 160, 3) := by decide +kernel
theorem dX10_sure_19 : decode cX10_sure 19 = .ok (.ifCond .ne 8, 3) := by decide +kernel
theorem dX10_sure_22 : decode cX10_sure 22 = .ok (.ldc 76, 2) := by decide +kernel
theorem dX10_sure_24 : decode cX10_sure 24 = .ok (.goto 5, 3) := by decide +kernel
theorem dX10_sure_27 : decode cX10_sure 27 = .ok (.iload 4, 2) := by decide +kernel
theorem dX10_sure_29 : decode cX10_sure 29 = .ok (.istore 4, 2) := by decide +kernel
theorem dX10_sure_31 : decode cX10_sure 31 = .ok (.iload 4, 2) := by decide +kernel
theorem dX10_sure_33 : decode cX10_sure 33 = .ok (.ifCond .eq 8, 3) := by decide +kernel
theorem dX10_sure_36 : decode cX10_sure 36 = .ok (.iload 4, 2) := by decide +kernel
theorem dX10_sure_38 : decode cX10_sure 38 = .ok (.goto 9, 3) := by decide +kernel
theorem dX10_sure_41 : decode cX10_sure 41 = .ok (.aload_n 0, 1) := by decide +kernel
theorem dX10_sure_42 : decode cX10_sure 42 = .ok (.iload_n 1, 1) := by decide +kernel
theorem dX10_sure_43 : decode cX10_sure 43 = .ok (.iload_n 2, 1) := by decide +kernel
theorem dX10_sure_44 : decode cX10_sure 44 = .ok (.invokevirtual 188, 3) := by decide +kernel
theorem dX10_sure_47 : decode cX10_sure 47 = .ok (.istore 4, 2) := by decide +kernel
theorem dX10_sure_49 : decode cX10_sure 49 = .ok (.iload 4, 2) := by decide +kernel
theorem dX10_sure_51 : decode cX10_sure 51 = .ok (.ifCond .eq 8, 3) := by decide +kernel
theorem dX10_sure_54 : decode cX10_sure 54 = .ok (.iload 4, 2) := by decide +kernel
theorem dX10_sure_56 : decode cX10_sure 56 = .ok (.goto 15, 3) := by decide +kernel
theorem dX10_sure_59 : decode cX10_sure 59 = .ok (.aload_n 0, 1) := by decide +kernel
theorem dX10_sure_60 : decode cX10_sure 60 = .ok (.aload_n 0, 1) := by decide +kernel
theorem dX10_sure_61 : decode cX10_sure 61 = .ok (.iload_n 1, 1) := by decide +kernel
theorem dX10_sure_62 : decode cX10_sure 62 = .ok (.iload_n 2, 1) := by decide +kernel
theorem dX10_sure_63 : decode cX10_sure 63 = .ok (.invokevirtual 133, 3) := by decide +kernel
theorem dX10_sure_66 : decode cX10_sure 66 = .ok (.iload_n 2, 1) := by decide +kernel
theorem dX10_sure_67 : decode cX10_sure 67 = .ok (.iload_n 3, 1) := by decide +kernel
theorem dX10_sure_68 : decode cX10_sure 68 = .ok (.invokevirtual 206, 3) := by decide +kernel
theorem dX10_sure_71 : decode cX10_sure 71 = .ok (.ireturn, 1) := by decide +kernel
theorem dX10_bestRow_0 : decode cX10_bestRow 0 = .ok (.aload_n 0, 1) := by decide +kernel
theorem dX10_bestRow_1 : decode cX10_bestRow 1 = .ok (.iload_n 1, 1) := by decide +kernel
theorem dX10_bestRow_2 : decode cX10_bestRow 2 = .ok (.iload_n 2, 1) := by decide +kernel
theorem dX10_bestRow_3 : decode cX10_bestRow 3 = .ok (.invokevirtual 156, 3) := by decide +kernel
theorem dX10_bestRow_6 : decode cX10_bestRow 6 = .ok (.ifCond .ne 6, 3) := by decide +kernel
theorem dX10_bestRow_9 : decode cX10_bestRow 9 = .ok (.ldc 152, 2) := by decide +kernel
theorem dX10_bestRow_11 : decode cX10_bestRow 11 = .ok (.ireturn, 1) := by decide +kernel
theorem dX10_bestRow_12 : decode cX10_bestRow 12 = .ok (.iload_n 3, 1) := by decide +kernel
theorem dX10_bestRow_13 : decode cX10_bestRow 13 = .ok (.i2l, 1) := by decide +kernel
theorem dX10_bestRow_14 : decode cX10_bestRow 14 = .ok (.ldc2_w 209, 3) := by decide +kernel
theorem dX10_bestRow_17 : decode cX10_bestRow 17 = .ok (.ldc2_w 211, 3) := by decide +kernel
theorem dX10_bestRow_20 : decode cX10_bestRow 20 = .ok (.invokestatic 66, 3) := by decide +kernel
theorem dX10_bestRow_23 : decode cX10_bestRow 23 = .ok (.ifCond .ne 6, 3) := by decide +kernel
theorem dX10_bestRow_26 : decode cX10_bestRow 26 = .ok (.ldc 76, 2) := by decide +kernel
theorem dX10_bestRow_28 : decode cX10_bestRow 28 = .ok (.ireturn, 1) := by decide +kernel
theorem dX10_bestRow_29 : decode cX10_bestRow 29 = .ok (.aload_n 0, 1) := by decide +kernel
theorem dX10_bestRow_30 : decode cX10_bestRow 30 = .ok (.iload_n 1, 1) := by decide +kernel
theorem dX10_bestRow_31 : decode cX10_bestRow 31 = .ok (.iload_n 2, 1) := by decide +kernel
theorem dX10_bestRow_32 : decode cX10_bestRow 32 = .ok (.invokevirtual 133, 3) := by decide +kernel
theorem dX10_bestRow_35 : decode cX10_bestRow 35 = .ok (.ifCond .ge 6, 3) := by decide +kernel
theorem dX10_bestRow_38 : decode cX10_bestRow 38 = .ok (.ldc 171, 2) := by decide +kernel
theorem dX10_bestRow_40 : decode cX10_bestRow 40 = .ok (.ireturn, 1) := by decide +kernel
theorem dX10_bestRow_41 : decode cX10_bestRow 41 = .ok (.iconst (-1), 1) := by decide +kernel
theorem dX10_bestRow_42 : decode cX10_bestRow 42 = .ok (.istore 4, 2) := by decide +kernel
theorem dX10_bestRow_44 : decode cX10_bestRow 44 = .ok (.iconst 0, 1) := by decide +kernel
theorem dX10_bestRow_45 : decode cX10_bestRow 45 = .ok (.istore 5, 2) := by decide +kernel
theorem dX10_bestRow_47 : decode cX10_bestRow 47 = .ok (.iconst 0, 1) := by decide +kernel
theorem dX10_bestRow_48 : decode cX10_bestRow 48 = .ok (.istore 6, 2) := by decide +kernel
theorem dX10_bestRow_50 : decode cX10_bestRow 50 = .ok (.iload 6, 2) := by decide +kernel
theorem dX10_bestRow_52 : decode cX10_bestRow 52 = .ok (.iconst 1, 1) := by decide +kernel
theorem dX10_bestRow_53 : decode cX10_bestRow 53 = .ok (.aload_n 0, 1) := by decide +kernel
theorem dX10_bestRow_54 : decode cX10_bestRow 54 = .ok (.getfield 63, 3) := by decide +kernel
theorem dX10_bestRow_57 : decode cX10_bestRow 57 = .ok (.ishl, 1) := by decide +kernel
theorem dX10_bestRow_58 : decode cX10_bestRow 58 = .ok (.if_icmp .ge 83, 3) := by decide +kernel
theorem dX10_bestRow_61 : decode cX10_bestRow 61 = .ok (.iload 6, 2) := by decide +kernel
theorem dX10_bestRow_63 : decode cX10_bestRow 63 = .ok (.invokestatic 140, 3) := by decide +kernel
theorem dX10_bestRow_66 : decode cX10_bestRow 66 = .ok (.iload_n 3, 1) := by decide +kernel
theorem dX10_bestRow_67 : decode cX10_bestRow 67 = .ok (.if_icmp .ne 68, 3) := by decide +kernel
theorem dX10_bestRow_70 : decode cX10_bestRow 70 = .ok (.iload 6, 2) := by decide +kernel
theorem dX10_bestRow_72 : decode cX10_bestRow 72 = .ok (.iload_n 2, 1) := by decide +kernel
theorem dX10_bestRow_73 : decode cX10_bestRow 73 = .ok (.invokestatic 160, 3) := by decide +kernel
theorem dX10_bestRow_76 : decode cX10_bestRow 76 = .ok (.ifCond .eq 59, 3) := by decide +kernel
theorem dX10_bestRow_79 : decode cX10_bestRow 79 = .ok (.iload 6, 2) := by decide +kernel
theorem dX10_bestRow_81 : decode cX10_bestRow 81 = .ok (.iload_n 1, 1) := by decide +kernel
theorem dX10_bestRow_82 : decode cX10_bestRow 82 = .ok (.invokestatic 160, 3) := by decide +kernel
theorem dX10_bestRow_85 : decode cX10_bestRow 85 = .ok (.ifCond .ne 50, 3) := by decide +kernel
theorem dX10_bestRow_88 : decode cX10_bestRow 88 = .ok (.aload_n 0, 1) := by decide +kernel
theorem dX10_bestRow_89 : decode cX10_bestRow 89 = .ok (.aload_n 0, 1) := by decide +kernel
theorem dX10_bestRow_90 : decode cX10_bestRow 90 = .ok (.iload_n 1, 1) := by decide +kernel
theorem dX10_bestRow_91 : decode cX10_bestRow 91 = .ok (.iload_n 2, 1) := by decide +kernel
theorem dX10_bestRow_92 : decode cX10_bestRow 92 = .ok (.invokevirtual 133, 3) := by decide +kernel
theorem dX10_bestRow_95 : decode cX10_bestRow 95 = .ok (.iload_n 2, 1) := by decide +kernel
theorem dX10_bestRow_96 : decode cX10_bestRow 96 = .ok (.iload 6, 2) := by decide +kernel
theorem dX10_bestRow_98 : decode cX10_bestRow 98 = .ok (.invokevirtual 206, 3) := by decide +kernel
theorem dX10_bestRow_101 : decode cX10_bestRow 101 = .ok (.istore 7, 2) := by decide +kernel
theorem dX10_bestRow_103 : decode cX10_bestRow 103 = .ok (.iload 7, 2) := by decide +kernel
theorem dX10_bestRow_105 : decode cX10_bestRow 105 = .ok (.iload 5, 2) := by decide +kernel
theorem dX10_bestRow_107 : decode cX10_bestRow 107 = .ok (.if_icmp .le 8, 3) := by decide +kernel
theorem dX10_bestRow_110 : decode cX10_bestRow 110 = .ok (.iload 6, 2) := by decide +kernel
theorem dX10_bestRow_112 : decode cX10_bestRow 112 = .ok (.goto 5, 3) := by decide +kernel
theorem dX10_bestRow_115 : decode cX10_bestRow 115 = .ok (.iload 4, 2) := by decide +kernel
theorem dX10_bestRow_117 : decode cX10_bestRow 117 = .ok (.istore 4, 2) := by decide +kernel
theorem dX10_bestRow_119 : decode cX10_bestRow 119 = .ok (.iload 7, 2) := by decide +kernel
theorem dX10_bestRow_121 : decode cX10_bestRow 121 = .ok (.iload 5, 2) := by decide +kernel
theorem dX10_bestRow_123 : decode cX10_bestRow 123 = .ok (.if_icmp .le 8, 3) := by decide +kernel
theorem dX10_bestRow_126 : decode cX10_bestRow 126 = .ok (.iload 7, 2) := by decide +kernel
theorem dX10_bestRow_128 : decode cX10_bestRow 128 = .ok (.goto 5, 3) := by decide +kernel
theorem dX10_bestRow_131 : decode cX10_bestRow 131 = .ok (.iload 5, 2) := by decide +kernel
theorem dX10_bestRow_133 : decode cX10_bestRow 133 = .ok (.istore 5, 2) := by decide +kernel
theorem dX10_bestRow_135 : decode cX10_bestRow 135 = .ok (.iinc 6 1, 3) := by decide +kernel
theorem dX10_bestRow_138 : decode cX10_bestRow 138 = .ok (.goto (-88), 3) := by decide +kernel
theorem dX10_bestRow_141 : decode cX10_bestRow 141 = .ok (.iload 4, 2) := by decide +kernel
theorem dX10_bestRow_143 : decode cX10_bestRow 143 = .ok (.ireturn, 1) := by decide +kernel
theorem dX10_odds_0 : decode cX10_odds 0 = .ok (.aload_n 0, 1) := by decide +kernel
theorem dX10_odds_1 : decode cX10_odds 1 = .ok (.iload 4, 2) := by decide +kernel
theorem dX10_odds_3 : decode cX10_odds 3 = .ok (.invokevirtual 70, 3) := by decide +kernel
theorem dX10_odds_6 : decode cX10_odds 6 = .ok (.ifCond .eq 13, 3) := by decide +kernel
theorem dX10_odds_9 : decode cX10_odds 9 = .ok (.aload_n 0, 1) := by decide +kernel
theorem dX10_odds_10 : decode cX10_odds 10 = .ok (.iload_n 1, 1) := by decide +kernel
theorem dX10_odds_11 : decode cX10_odds 11 = .ok (.iload_n 2, 1) := by decide +kernel
theorem dX10_odds_12 : decode cX10_odds 12 = .ok (.iload_n 3, 1) := by decide +kernel
theorem dX10_odds_13 : decode cX10_odds 13 = .ok (.invokevirtual 184, 3) := by decide +kernel
theorem dX10_odds_16 : decode cX10_odds 16 = .ok (.goto 5, 3) := by decide +kernel
theorem dX10_odds_19 : decode cX10_odds 19 = .ok (.ldc 152, 2) := by decide +kernel
theorem dX10_odds_21 : decode cX10_odds 21 = .ok (.istore 5, 2) := by decide +kernel
theorem dX10_odds_23 : decode cX10_odds 23 = .ok (.iload 5, 2) := by decide +kernel
theorem dX10_odds_25 : decode cX10_odds 25 = .ok (.ifCond .eq 8, 3) := by decide +kernel
theorem dX10_odds_28 : decode cX10_odds 28 = .ok (.iload 5, 2) := by decide +kernel
theorem dX10_odds_30 : decode cX10_odds 30 = .ok (.goto 9, 3) := by decide +kernel
theorem dX10_odds_33 : decode cX10_odds 33 = .ok (.aload_n 0, 1) := by decide +kernel
theorem dX10_odds_34 : decode cX10_odds 34 = .ok (.iload_n 1, 1) := by decide +kernel
theorem dX10_odds_35 : decode cX10_odds 35 = .ok (.iload_n 2, 1) := by decide +kernel
theorem dX10_odds_36 : decode cX10_odds 36 = .ok (.invokevirtual 188, 3) := by decide +kernel
theorem dX10_odds_39 : decode cX10_odds 39 = .ok (.istore 5, 2) := by decide +kernel
theorem dX10_odds_41 : decode cX10_odds 41 = .ok (.iload 5, 2) := by decide +kernel
theorem dX10_odds_43 : decode cX10_odds 43 = .ok (.ifCond .eq 6, 3) := by decide +kernel
theorem dX10_odds_46 : decode cX10_odds 46 = .ok (.iload 5, 2) := by decide +kernel
theorem dX10_odds_48 : decode cX10_odds 48 = .ok (.ireturn, 1) := by decide +kernel
theorem dX10_odds_49 : decode cX10_odds 49 = .ok (.iconst 0, 1) := by decide +kernel
theorem dX10_odds_50 : decode cX10_odds 50 = .ok (.istore 6, 2) := by decide +kernel
theorem dX10_odds_52 : decode cX10_odds 52 = .ok (.iconst 0, 1) := by decide +kernel
theorem dX10_odds_53 : decode cX10_odds 53 = .ok (.istore 7, 2) := by decide +kernel
theorem dX10_odds_55 : decode cX10_odds 55 = .ok (.iload 7, 2) := by decide +kernel
theorem dX10_odds_57 : decode cX10_odds 57 = .ok (.aload_n 0, 1) := by decide +kernel
theorem dX10_odds_58 : decode cX10_odds 58 = .ok (.getfield 63, 3) := by decide +kernel
theorem dX10_odds_61 : decode cX10_odds 61 = .ok (.if_icmp .ge 46, 3) := by decide +kernel
theorem dX10_odds_64 : decode cX10_odds 64 = .ok (.iload 6, 2) := by decide +kernel
theorem dX10_odds_66 : decode cX10_odds 66 = .ok (.iload_n 3, 1) := by decide +kernel
theorem dX10_odds_67 : decode cX10_odds 67 = .ok (.iload 7, 2) := by decide +kernel
theorem dX10_odds_69 : decode cX10_odds 69 = .ok (.invokestatic 160, 3) := by decide +kernel
theorem dX10_odds_72 : decode cX10_odds 72 = .ok (.ifCond .eq 25, 3) := by decide +kernel
theorem dX10_odds_75 : decode cX10_odds 75 = .ok (.bipush 9, 2) := by decide +kernel
theorem dX10_odds_77 : decode cX10_odds 77 = .ok (.aload_n 0, 1) := by decide +kernel
theorem dX10_odds_78 : decode cX10_odds 78 = .ok (.getfield 13, 3) := by decide +kernel
theorem dX10_odds_81 : decode cX10_odds 81 = .ok (.iload 7, 2) := by decide +kernel
theorem dX10_odds_83 : decode cX10_odds 83 = .ok (.iaload, 1) := by decide +kernel
theorem dX10_odds_84 : decode cX10_odds 84 = .ok (.aload_n 0, 1) := by decide +kernel
theorem dX10_odds_85 : decode cX10_odds 85 = .ok (.iload_n 1, 1) := by decide +kernel
theorem dX10_odds_86 : decode cX10_odds 86 = .ok (.iload_n 2, 1) := by decide +kernel
theorem dX10_odds_87 : decode cX10_odds 87 = .ok (.invokevirtual 133, 3) := by decide +kernel
theorem dX10_odds_90 : decode cX10_odds 90 = .ok (.invokestatic 163, 3) := by decide +kernel
theorem dX10_odds_93 : decode cX10_odds 93 = .ok (.isub, 1) := by decide +kernel
theorem dX10_odds_94 : decode cX10_odds 94 = .ok (.goto 4, 3) := by decide +kernel
theorem dX10_odds_97 : decode cX10_odds 97 = .ok (.iconst 0, 1) := by decide +kernel
theorem dX10_odds_98 : decode cX10_odds 98 = .ok (.iadd, 1) := by decide +kernel
theorem dX10_odds_99 : decode cX10_odds 99 = .ok (.istore 6, 2) := by decide +kernel
theorem dX10_odds_101 : decode cX10_odds 101 = .ok (.iinc 7 1, 3) := by decide +kernel
theorem dX10_odds_104 : decode cX10_odds 104 = .ok (.goto (-49), 3) := by decide +kernel
theorem dX10_odds_107 : decode cX10_odds 107 = .ok (.iload_n 3, 1) := by decide +kernel
theorem dX10_odds_108 : decode cX10_odds 108 = .ok (.iload 4, 2) := by decide +kernel
theorem dX10_odds_110 : decode cX10_odds 110 = .ok (.invokestatic 160, 3) := by decide +kernel
theorem dX10_odds_113 : decode cX10_odds 113 = .ok (.ifCond .eq 31, 3) := by decide +kernel
theorem dX10_odds_116 : decode cX10_odds 116 = .ok (.bipush 9, 2) := by decide +kernel
theorem dX10_odds_118 : decode cX10_odds 118 = .ok (.aload_n 0, 1) := by decide +kernel
theorem dX10_odds_119 : decode cX10_odds 119 = .ok (.getfield 13, 3) := by decide +kernel
theorem dX10_odds_122 : decode cX10_odds 122 = .ok (.iload 4, 2) := by decide +kernel
theorem dX10_odds_124 : decode cX10_odds 124 = .ok (.iaload, 1) := by decide +kernel
theorem dX10_odds_125 : decode cX10_odds 125 = .ok (.aload_n 0, 1) := by decide +kernel
theorem dX10_odds_126 : decode cX10_odds 126 = .ok (.iload_n 1, 1) := by decide +kernel
theorem dX10_odds_127 : decode cX10_odds 127 = .ok (.iload_n 2, 1) := by decide +kernel
theorem dX10_odds_128 : decode cX10_odds 128 = .ok (.invokevirtual 133, 3) := by decide +kernel
theorem dX10_odds_131 : decode cX10_odds 131 = .ok (.invokestatic 163, 3) := by decide +kernel
theorem dX10_odds_134 : decode cX10_odds 134 = .ok (.isub, 1) := by decide +kernel
theorem dX10_odds_135 : decode cX10_odds 135 = .ok (.ldc 213, 2) := by decide +kernel
theorem dX10_odds_137 : decode cX10_odds 137 = .ok (.imul, 1) := by decide +kernel
theorem dX10_odds_138 : decode cX10_odds 138 = .ok (.iload 6, 2) := by decide +kernel
theorem dX10_odds_140 : decode cX10_odds 140 = .ok (.idiv, 1) := by decide +kernel
theorem dX10_odds_141 : decode cX10_odds 141 = .ok (.goto 4, 3) := by decide +kernel
theorem dX10_odds_144 : decode cX10_odds 144 = .ok (.iconst 0, 1) := by decide +kernel
theorem dX10_odds_145 : decode cX10_odds 145 = .ok (.ireturn, 1) := by decide +kernel
theorem dX10_ask_0 : decode cX10_ask 0 = .ok (.aload_n 0, 1) := by decide +kernel
theorem dX10_ask_1 : decode cX10_ask 1 = .ok (.iload_n 1, 1) := by decide +kernel
theorem dX10_ask_2 : decode cX10_ask 2 = .ok (.invokevirtual 70, 3) := by decide +kernel
theorem dX10_ask_5 : decode cX10_ask 5 = .ok (.ifCond .eq 11, 3) := by decide +kernel
theorem dX10_ask_8 : decode cX10_ask 8 = .ok (.aload_n 0, 1) := by decide +kernel
theorem dX10_ask_9 : decode cX10_ask 9 = .ok (.iload_n 2, 1) := by decide +kernel
theorem dX10_ask_10 : decode cX10_ask 10 = .ok (.invokevirtual 181, 3) := by decide +kernel
theorem dX10_ask_13 : decode cX10_ask 13 = .ok (.ifCond .ne 6, 3) := by decide +kernel
theorem dX10_ask_16 : decode cX10_ask 16 = .ok (.ldc 152, 2) := by decide +kernel
theorem dX10_ask_18 : decode cX10_ask 18 = .ok (.ireturn, 1) := by decide +kernel
theorem dX10_ask_19 : decode cX10_ask 19 = .ok (.iload_n 2, 1) := by decide +kernel
theorem dX10_ask_20 : decode cX10_ask 20 = .ok (.invokestatic 140, 3) := by decide +kernel
theorem dX10_ask_23 : decode cX10_ask 23 = .ok (.iconst 2, 1) := by decide +kernel
theorem dX10_ask_24 : decode cX10_ask 24 = .ok (.if_icmp .lt 11, 3) := by decide +kernel
theorem dX10_ask_27 : decode cX10_ask 27 = .ok (.iload_n 2, 1) := by decide +kernel
theorem dX10_ask_28 : decode cX10_ask 28 = .ok (.iload_n 1, 1) := by decide +kernel
theorem dX10_ask_29 : decode cX10_ask 29 = .ok (.invokestatic 160, 3) := by decide +kernel
theorem dX10_ask_32 : decode cX10_ask 32 = .ok (.ifCond .ne 6, 3) := by decide +kernel
theorem dX10_ask_35 : decode cX10_ask 35 = .ok (.ldc 76, 2) := by decide +kernel
theorem dX10_ask_37 : decode cX10_ask 37 = .ok (.ireturn, 1) := by decide +kernel
theorem dX10_ask_38 : decode cX10_ask 38 = .ok (.iconst (-1), 1) := by decide +kernel
theorem dX10_ask_39 : decode cX10_ask 39 = .ok (.istore_n 3, 1) := by decide +kernel
theorem dX10_ask_40 : decode cX10_ask 40 = .ok (.iconst 0, 1) := by decide +kernel
theorem dX10_ask_41 : decode cX10_ask 41 = .ok (.istore 4, 2) := by decide +kernel
theorem dX10_ask_43 : decode cX10_ask 43 = .ok (.iconst 0, 1) := by decide +kernel
theorem dX10_ask_44 : decode cX10_ask 44 = .ok (.istore 5, 2) := by decide +kernel
theorem dX10_ask_46 : decode cX10_ask 46 = .ok (.iload 5, 2) := by decide +kernel
theorem dX10_ask_48 : decode cX10_ask 48 = .ok (.aload_n 0, 1) := by decide +kernel
theorem dX10_ask_49 : decode cX10_ask 49 = .ok (.getfield 63, 3) := by decide +kernel
theorem dX10_ask_52 : decode cX10_ask 52 = .ok (.if_icmp .ge 77, 3) := by decide +kernel
theorem dX10_ask_55 : decode cX10_ask 55 = .ok (.iload_n 2, 1) := by decide +kernel
theorem dX10_ask_56 : decode cX10_ask 56 = .ok (.iload 5, 2) := by decide +kernel
theorem dX10_ask_58 : decode cX10_ask 58 = .ok (.invokestatic 160, 3) := by decide +kernel
theorem dX10_ask_61 : decode cX10_ask 61 = .ok (.ifCond .ne 13, 3) := by decide +kernel
theorem dX10_ask_64 : decode cX10_ask 64 = .ok (.aload_n 0, 1) := by decide +kernel
theorem dX10_ask_65 : decode cX10_ask 65 = .ok (.iload 5, 2) := by decide +kernel
theorem dX10_ask_67 : decode cX10_ask 67 = .ok (.iload_n 1, 1) := by decide +kernel
theorem dX10_ask_68 : decode cX10_ask 68 = .ok (.invokevirtual 133, 3) := by decide +kernel
theorem dX10_ask_71 : decode cX10_ask 71 = .ok (.ifCond .ge 7, 3) := by decide +kernel
theorem dX10_ask_74 : decode cX10_ask 74 = .ok (.iconst 0, 1) := by decide +kernel
theorem dX10_ask_75 : decode cX10_ask 75 = .ok (.goto 16, 3) := by decide +kernel
theorem dX10_ask_78 : decode cX10_ask 78 = .ok (.aload_n 0, 1) := by decide +kernel
theorem dX10_ask_79 : decode cX10_ask 79 = .ok (.aload_n 0, 1) := by decide +kernel
theorem dX10_ask_80 : decode cX10_ask 80 = .ok (.iload 5, 2) := by decide +kernel
theorem dX10_ask_82 : decode cX10_ask 82 = .ok (.iload_n 1, 1) := by decide +kernel
theorem dX10_ask_83 : decode cX10_ask 83 = .ok (.invokevirtual 133, 3) := by decide +kernel
theorem dX10_ask_86 : decode cX10_ask 86 = .ok (.iload_n 1, 1) := by decide +kernel
theorem dX10_ask_87 : decode cX10_ask 87 = .ok (.iload_n 2, 1) := by decide +kernel
theorem dX10_ask_88 : decode cX10_ask 88 = .ok (.invokevirtual 206, 3) := by decide +kernel
theorem dX10_ask_91 : decode cX10_ask 91 = .ok (.istore 6, 2) := by decide +kernel
theorem dX10_ask_93 : decode cX10_ask 93 = .ok (.iload 6, 2) := by decide +kernel
theorem dX10_ask_95 : decode cX10_ask 95 = .ok (.iload 4, 2) := by decide +kernel
theorem dX10_ask_97 : decode cX10_ask 97 = .ok (.if_icmp .le 8, 3) := by decide +kernel
theorem dX10_ask_100 : decode cX10_ask 100 = .ok (.iload 5, 2) := by decide +kernel
theorem dX10_ask_102 : decode cX10_ask 102 = .ok (.goto 4, 3) := by decide +kernel
theorem dX10_ask_105 : decode cX10_ask 105 = .ok (.iload_n 3, 1) := by decide +kernel
theorem dX10_ask_106 : decode cX10_ask 106 = .ok (.istore_n 3, 1) := by decide +kernel
theorem dX10_ask_107 : decode cX10_ask 107 = .ok (.iload 6, 2) := by decide +kernel
theorem dX10_ask_109 : decode cX10_ask 109 = .ok (.iload 4, 2) := by decide +kernel
theorem dX10_ask_111 : decode cX10_ask 111 = .ok (.if_icmp .le 8, 3) := by decide +kernel
theorem dX10_ask_114 : decode cX10_ask 114 = .ok (.iload 6, 2) := by decide +kernel
theorem dX10_ask_116 : decode cX10_ask 116 = .ok (.goto 5, 3) := by decide +kernel
theorem dX10_ask_119 : decode cX10_ask 119 = .ok (.iload 4, 2) := by decide +kernel
theorem dX10_ask_121 : decode cX10_ask 121 = .ok (.istore 4, 2) := by decide +kernel
theorem dX10_ask_123 : decode cX10_ask 123 = .ok (.iinc 5 1, 3) := by decide +kernel
theorem dX10_ask_126 : decode cX10_ask 126 = .ok (.goto (-80), 3) := by decide +kernel
theorem dX10_ask_129 : decode cX10_ask 129 = .ok (.iload_n 3, 1) := by decide +kernel
theorem dX10_ask_130 : decode cX10_ask 130 = .ok (.ireturn, 1) := by decide +kernel
theorem dX10_ringOf_0 : decode cX10_ringOf 0 = .ok (.iload_n 1, 1) := by decide +kernel
theorem dX10_ringOf_1 : decode cX10_ringOf 1 = .ok (.istore_n 2, 1) := by decide +kernel
theorem dX10_ringOf_2 : decode cX10_ringOf 2 = .ok (.iconst 1, 1) := by decide +kernel
theorem dX10_ringOf_3 : decode cX10_ringOf 3 = .ok (.istore_n 3, 1) := by decide +kernel
theorem dX10_ringOf_4 : decode cX10_ringOf 4 = .ok (.iload_n 3, 1) := by decide +kernel
theorem dX10_ringOf_5 : decode cX10_ringOf 5 = .ok (.bipush 8, 2) := by decide +kernel
theorem dX10_ringOf_7 : decode cX10_ringOf 7 = .ok (.if_icmp .gt 26, 3) := by decide +kernel
theorem dX10_ringOf_10 : decode cX10_ringOf 10 = .ok (.aload_n 0, 1) := by decide +kernel
theorem dX10_ringOf_11 : decode cX10_ringOf 11 = .ok (.getfield 13, 3) := by decide +kernel
theorem dX10_ringOf_14 : decode cX10_ringOf 14 = .ok (.bipush 8, 2) := by decide +kernel
theorem dX10_ringOf_16 : decode cX10_ringOf 16 = .ok (.iload_n 2, 1) := by decide +kernel
theorem dX10_ringOf_17 : decode cX10_ringOf 17 = .ok (.iadd, 1) := by decide +kernel
theorem dX10_ringOf_18 : decode cX10_ringOf 18 = .ok (.iaload, 1) := by decide +kernel
theorem dX10_ringOf_19 : decode cX10_ringOf 19 = .ok (.istore_n 2, 1) := by decide +kernel
theorem dX10_ringOf_20 : decode cX10_ringOf 20 = .ok (.iload_n 2, 1) := by decide +kernel
theorem dX10_ringOf_21 : decode cX10_ringOf 21 = .ok (.iload_n 1, 1) := by decide +kernel
theorem dX10_ringOf_22 : decode cX10_ringOf 22 = .ok (.if_icmp .ne 5, 3) := by decide +kernel
theorem dX10_ringOf_25 : decode cX10_ringOf 25 = .ok (.iload_n 3, 1) := by decide +kernel
theorem dX10_ringOf_26 : decode cX10_ringOf 26 = .ok (.ireturn, 1) := by decide +kernel
theorem dX10_ringOf_27 : decode cX10_ringOf 27 = .ok (.iinc 3 1, 3) := by decide +kernel
theorem dX10_ringOf_30 : decode cX10_ringOf 30 = .ok (.goto (-26), 3) := by decide +kernel
theorem dX10_ringOf_33 : decode cX10_ringOf 33 = .ok (.iconst (-1), 1) := by decide +kernel
theorem dX10_ringOf_34 : decode cX10_ringOf 34 = .ok (.ireturn, 1) := by decide +kernel
theorem dX10_ring_0 : decode cX10_ring 0 = .ok (.aload_n 0, 1) := by decide +kernel
theorem dX10_ring_1 : decode cX10_ring 1 = .ok (.iload_n 1, 1) := by decide +kernel
theorem dX10_ring_2 : decode cX10_ring 2 = .ok (.invokevirtual 70, 3) := by decide +kernel
theorem dX10_ring_5 : decode cX10_ring 5 = .ok (.ifCond .eq 11, 3) := by decide +kernel
theorem dX10_ring_8 : decode cX10_ring 8 = .ok (.aload_n 0, 1) := by decide +kernel
theorem dX10_ring_9 : decode cX10_ring 9 = .ok (.iload_n 1, 1) := by decide +kernel
theorem dX10_ring_10 : decode cX10_ring 10 = .ok (.invokevirtual 214, 3) := by decide +kernel
theorem dX10_ring_13 : decode cX10_ring 13 = .ok (.goto 5, 3) := by decide +kernel
theorem dX10_ring_16 : decode cX10_ring 16 = .ok (.ldc 152, 2) := by decide +kernel
theorem dX10_ring_18 : decode cX10_ring 18 = .ok (.ireturn, 1) := by decide +kernel
theorem dX10_rings_0 : decode cX10_rings 0 = .ok (.iload_n 1, 1) := by decide +kernel
theorem dX10_rings_1 : decode cX10_rings 1 = .ok (.i2l, 1) := by decide +kernel
theorem dX10_rings_2 : decode cX10_rings 2 = .ok (.lconst 0, 1) := by decide +kernel
theorem dX10_rings_3 : decode cX10_rings 3 = .ok (.ldc2_w 209, 3) := by decide +kernel
theorem dX10_rings_6 : decode cX10_rings 6 = .ok (.invokestatic 66, 3) := by decide +kernel
theorem dX10_rings_9 : decode cX10_rings 9 = .ok (.ifCond .ne 6, 3) := by decide +kernel
theorem dX10_rings_12 : decode cX10_rings 12 = .ok (.ldc 76, 2) := by decide +kernel
theorem dX10_rings_14 : decode cX10_rings 14 = .ok (.ireturn, 1) := by decide +kernel
theorem dX10_rings_15 : decode cX10_rings 15 = .ok (.iconst 0, 1) := by decide +kernel
theorem dX10_rings_16 : decode cX10_rings 16 = .ok (.istore_n 2, 1) := by decide +kernel
theorem dX10_rings_17 : decode cX10_rings 17 = .ok (.iconst 0, 1) := by decide +kernel
theorem dX10_rings_18 : decode cX10_rings 18 = .ok (.istore_n 3, 1) := by decide +kernel
theorem dX10_rings_19 : decode cX10_rings 19 = .ok (.iload_n 3, 1) := by decide +kernel
theorem dX10_rings_20 : decode cX10_rings 20 = .ok (.aload_n 0, 1) := by decide +kernel
theorem dX10_rings_21 : decode cX10_rings 21 = .ok (.getfield 63, 3) := by decide +kernel
theorem dX10_rings_24 : decode cX10_rings 24 = .ok (.if_icmp .ge 93, 3) := by decide +kernel
theorem dX10_rings_27 : decode cX10_rings 27 = .ok (.aload_n 0, 1) := by decide +kernel
theorem dX10_rings_28 : decode cX10_rings 28 = .ok (.getfield 13, 3) := by decide +kernel
theorem dX10_rings_31 : decode cX10_rings 31 = .ok (.bipush 8, 2) := by decide +kernel
theorem dX10_rings_33 : decode cX10_rings 33 = .ok (.iload_n 3, 1) := by decide +kernel
theorem dX10_rings_34 : decode cX10_rings 34 = .ok (.iadd, 1) := by decide +kernel
theorem dX10_rings_35 : decode cX10_rings 35 = .ok (.iaload, 1) := by decide +kernel
theorem dX10_rings_36 : decode cX10_rings 36 = .ok (.iload_n 3, 1) := by decide +kernel
theorem dX10_rings_37 : decode cX10_rings 37 = .ok (.if_icmp .eq 7, 3) := by decide +kernel
theorem dX10_rings_40 : decode cX10_rings 40 = .ok (.iconst 1, 1) := by decide +kernel
theorem dX10_rings_41 : decode cX10_rings 41 = .ok (.goto 4, 3) := by decide +kernel
theorem dX10_rings_44 : decode cX10_rings 44 = .ok (.iconst 0, 1) := by decide +kernel
theorem dX10_rings_45 : decode cX10_rings 45 = .ok (.istore 4, 2) := by decide +kernel
theorem dX10_rings_47 : decode cX10_rings 47 = .ok (.iload_n 1, 1) := by decide +kernel
theorem dX10_rings_48 : decode cX10_rings 48 = .ok (.ifCond .ne 20, 3) := by decide +kernel
theorem dX10_rings_51 : decode cX10_rings 51 = .ok (.aload_n 0, 1) := by decide +kernel
theorem dX10_rings_52 : decode cX10_rings 52 = .ok (.iload_n 3, 1) := by decide +kernel
theorem dX10_rings_53 : decode cX10_rings 53 = .ok (.invokevirtual 214, 3) := by decide +kernel
theorem dX10_rings_56 : decode cX10_rings 56 = .ok (.iconst 1, 1) := by decide +kernel
theorem dX10_rings_57 : decode cX10_rings 57 = .ok (.if_icmp .le 7, 3) := by decide +kernel
theorem dX10_rings_60 : decode cX10_rings 60 = .ok (.iconst 1, 1) := by decide +kernel
theorem dX10_rings_61 : decode cX10_rings 61 = .ok (.goto 35, 3) := by decide +kernel
theorem dX10_rings_64 : decode cX10_rings 64 = .ok (.iconst 0, 1) := by decide +kernel
theorem dX10_rings_65 : decode cX10_rings 65 = .ok (.goto 31, 3) := by decide +kernel
theorem dX10_rings_68 : decode cX10_rings 68 = .ok (.iload_n 1, 1) := by decide +kernel
theorem dX10_rings_69 : decode cX10_rings 69 = .ok (.iconst 1, 1) := by decide +kernel
theorem dX10_rings_70 : decode cX10_rings 70 = .ok (.if_icmp .ne 8, 3) := by decide +kernel
theorem dX10_rings_73 : decode cX10_rings 73 = .ok (.iload 4, 2) := by decide +kernel
theorem dX10_rings_75 : decode cX10_rings 75 = .ok (.goto 21, 3) := by decide +kernel
theorem dX10_rings_78 : decode cX10_rings 78 = .ok (.iload 4, 2) := by decide +kernel
theorem dX10_rings_80 : decode cX10_rings 80 = .ok (.ifCond .eq 15, 3) := by decide +kernel
theorem dX10_rings_83 : decode cX10_rings 83 = .ok (.aload_n 0, 1) := by decide +kernel
theorem dX10_rings_84 : decode cX10_rings 84 = .ok (.iload_n 3, 1) := by decide +kernel
theorem dX10_rings_85 : decode cX10_rings 85 = .ok (.invokevirtual 153, 3) := by decide +kernel
theorem dX10_rings_88 : decode cX10_rings 88 = .ok (.ifCond .eq 7, 3) := by decide +kernel
theorem dX10_rings_91 : decode cX10_rings 91 = .ok (.iconst 1, 1) := by decide +kernel
theorem dX10_rings_92 : decode cX10_rings 92 = .ok (.goto 4, 3) := by decide +kernel
theorem dX10_rings_95 : decode cX10_rings 95 = .ok (.iconst 0, 1) := by decide +kernel
theorem dX10_rings_96 : decode cX10_rings 96 = .ok (.istore 5, 2) := by decide +kernel
theorem dX10_rings_98 : decode cX10_rings 98 = .ok (.iload_n 2, 1) := by decide +kernel
theorem dX10_rings_99 : decode cX10_rings 99 = .ok (.iload 5, 2) := by decide +kernel
theorem dX10_rings_101 : decode cX10_rings 101 = .ok (.ifCond .eq 7, 3) := by decide +kernel
theorem dX10_rings_104 : decode cX10_rings 104 = .ok (.iconst 1, 1) := by decide +kernel
theorem dX10_rings_105 : decode cX10_rings 105 = .ok (.goto 4, 3) := by decide +kernel
theorem dX10_rings_108 : decode cX10_rings 108 = .ok (.iconst 0, 1) := by decide +kernel
theorem dX10_rings_109 : decode cX10_rings 109 = .ok (.iadd, 1) := by decide +kernel
theorem dX10_rings_110 : decode cX10_rings 110 = .ok (.istore_n 2, 1) := by decide +kernel
theorem dX10_rings_111 : decode cX10_rings 111 = .ok (.iinc 3 1, 3) := by decide +kernel
theorem dX10_rings_114 : decode cX10_rings 114 = .ok (.goto (-95), 3) := by decide +kernel
theorem dX10_rings_117 : decode cX10_rings 117 = .ok (.iload_n 2, 1) := by decide +kernel
theorem dX10_rings_118 : decode cX10_rings 118 = .ok (.ireturn, 1) := by decide +kernel
theorem dX10_mask_0 : decode cX10_mask 0 = .ok (.aload_n 0, 1) := by decide +kernel
theorem dX10_mask_1 : decode cX10_mask 1 = .ok (.iload_n 1, 1) := by decide +kernel
theorem dX10_mask_2 : decode cX10_mask 2 = .ok (.iload_n 2, 1) := by decide +kernel
theorem dX10_mask_3 : decode cX10_mask 3 = .ok (.iload_n 3, 1) := by decide +kernel
theorem dX10_mask_4 : decode cX10_mask 4 = .ok (.invokevirtual 184, 3) := by decide +kernel
theorem dX10_mask_7 : decode cX10_mask 7 = .ok (.istore 5, 2) := by decide +kernel
theorem dX10_mask_9 : decode cX10_mask 9 = .ok (.iload 5, 2) := by decide +kernel
theorem dX10_mask_11 : decode cX10_mask 11 = .ok (.ifCond .ne 29, 3) := by decide +kernel
theorem dX10_mask_14 : decode cX10_mask 14 = .ok (.iload_n 3, 1) := by decide +kernel
theorem dX10_mask_15 : decode cX10_mask 15 = .ok (.iload_n 2, 1) := by decide +kernel
theorem dX10_mask_16 : decode cX10_mask 16 = .ok (.invokestatic 160, 3) := by decide +kernel
theorem dX10_mask_19 : decode cX10_mask 19 = .ok (.ifCond .eq 16, 3) := by decide +kernel
theorem dX10_mask_22 : decode cX10_mask 22 = .ok (.iload 4, 2) := by decide +kernel
theorem dX10_mask_24 : decode cX10_mask 24 = .ok (.i2l, 1) := by decide +kernel
theorem dX10_mask_25 : decode cX10_mask 25 = .ok (.lconst 1, 1) := by decide +kernel
theorem dX10_mask_26 : decode cX10_mask 26 = .ok (.ldc2_w 211, 3) := by decide +kernel
theorem dX10_mask_29 : decode cX10_mask 29 = .ok (.invokestatic 66, 3) := by decide +kernel
theorem dX10_mask_32 : decode cX10_mask 32 = .ok (.ifCond .ne 8, 3) := by decide +kernel
theorem dX10_mask_35 : decode cX10_mask 35 = .ok (.ldc 76, 2) := by decide +kernel
theorem dX10_mask_37 : decode cX10_mask 37 = .ok (.goto 5, 3) := by decide +kernel
theorem dX10_mask_40 : decode cX10_mask 40 = .ok (.iload 5, 2) := by decide +kernel
theorem dX10_mask_42 : decode cX10_mask 42 = .ok (.istore 5, 2) := by decide +kernel
theorem dX10_mask_44 : decode cX10_mask 44 = .ok (.iload 5, 2) := by decide +kernel
theorem dX10_mask_46 : decode cX10_mask 46 = .ok (.ifCond .eq 8, 3) := by decide +kernel
theorem dX10_mask_49 : decode cX10_mask 49 = .ok (.iload 5, 2) := by decide +kernel
theorem dX10_mask_51 : decode cX10_mask 51 = .ok (.goto 9, 3) := by decide +kernel
theorem dX10_mask_54 : decode cX10_mask 54 = .ok (.aload_n 0, 1) := by decide +kernel
theorem dX10_mask_55 : decode cX10_mask 55 = .ok (.iload_n 1, 1) := by decide +kernel
theorem dX10_mask_56 : decode cX10_mask 56 = .ok (.iload_n 2, 1) := by decide +kernel
theorem dX10_mask_57 : decode cX10_mask 57 = .ok (.invokevirtual 188, 3) := by decide +kernel
theorem dX10_mask_60 : decode cX10_mask 60 = .ok (.istore 5, 2) := by decide +kernel
theorem dX10_mask_62 : decode cX10_mask 62 = .ok (.iload 5, 2) := by decide +kernel
theorem dX10_mask_64 : decode cX10_mask 64 = .ok (.ifCond .eq 6, 3) := by decide +kernel
theorem dX10_mask_67 : decode cX10_mask 67 = .ok (.iload 5, 2) := by decide +kernel
theorem dX10_mask_69 : decode cX10_mask 69 = .ok (.ireturn, 1) := by decide +kernel
theorem dX10_mask_70 : decode cX10_mask 70 = .ok (.aload_n 0, 1) := by decide +kernel
theorem dX10_mask_71 : decode cX10_mask 71 = .ok (.getfield 13, 3) := by decide +kernel
theorem dX10_mask_74 : decode cX10_mask 74 = .ok (.iload_n 2, 1) := by decide +kernel
theorem dX10_mask_75 : decode cX10_mask 75 = .ok (.iaload, 1) := by decide +kernel
theorem dX10_mask_76 : decode cX10_mask 76 = .ok (.istore 6, 2) := by decide +kernel
theorem dX10_mask_78 : decode cX10_mask 78 = .ok (.iconst (-1), 1) := by decide +kernel
theorem dX10_mask_79 : decode cX10_mask 79 = .ok (.istore 7, 2) := by decide +kernel
theorem dX10_mask_81 : decode cX10_mask 81 = .ok (.iconst 0, 1) := by decide +kernel
theorem dX10_mask_82 : decode cX10_mask 82 = .ok (.istore 8, 2) := by decide +kernel
theorem dX10_mask_84 : decode cX10_mask 84 = .ok (.iload 8, 2) := by decide +kernel
theorem dX10_mask_86 : decode cX10_mask 86 = .ok (.sipush 256, 3) := by decide +kernel
theorem dX10_mask_89 : decode cX10_mask 89 = .ok (.if_icmp .ge 64, 3) := by decide +kernel
theorem dX10_mask_92 : decode cX10_mask 92 = .ok (.iload 7, 2) := by decide +kernel
theorem dX10_mask_94 : decode cX10_mask 94 = .ok (.ifCond .lt 16, 3) := by decide +kernel
theorem dX10_mask_97 : decode cX10_mask 97 = .ok (.iload 8, 2) := by decide +kernel
theorem dX10_mask_99 : decode cX10_mask 99 = .ok (.invokestatic 140, 3) := by decide +kernel
theorem dX10_mask_102 : decode cX10_mask 102 = .ok (.iload 7, 2) := by decide +kernel
theorem dX10_mask_104 : decode cX10_mask 104 = .ok (.invokestatic 140, 3) := by decide +kernel
theorem dX10_mask_107 : decode cX10_mask 107 = .ok (.if_icmp .ge 40, 3) := by decide +kernel
theorem dX10_mask_110 : decode cX10_mask 110 = .ok (.aload_n 0, 1) := by decide +kernel
theorem dX10_mask_111 : decode cX10_mask 111 = .ok (.getfield 13, 3) := by decide +kernel
theorem dX10_mask_114 : decode cX10_mask 114 = .ok (.iload_n 2, 1) := by decide +kernel
theorem dX10_mask_115 : decode cX10_mask 115 = .ok (.iload 6, 2) := by decide +kernel
theorem dX10_mask_117 : decode cX10_mask 117 = .ok (.iload 8, 2) := by decide +kernel
theorem dX10_mask_119 : decode cX10_mask 119 = .ok (.ixor, 1) := by decide +kernel
theorem dX10_mask_120 : decode cX10_mask 120 = .ok (.iastore, 1) := by decide +kernel
theorem dX10_mask_121 : decode cX10_mask 121 = .ok (.aload_n 0, 1) := by decide +kernel
theorem dX10_mask_122 : decode cX10_mask 122 = .ok (.aload_n 0, 1) := by decide +kernel
theorem dX10_mask_123 : decode cX10_mask 123 = .ok (.iload_n 1, 1) := by decide +kernel
theorem dX10_mask_124 : decode cX10_mask 124 = .ok (.iload_n 2, 1) := by decide +kernel
theorem dX10_mask_125 : decode cX10_mask 125 = .ok (.invokevirtual 133, 3) := by decide +kernel
theorem dX10_mask_128 : decode cX10_mask 128 = .ok (.iload_n 2, 1) := by decide +kernel
theorem dX10_mask_129 : decode cX10_mask 129 = .ok (.iload_n 3, 1) := by decide +kernel
theorem dX10_mask_130 : decode cX10_mask 130 = .ok (.invokevirtual 206, 3) := by decide +kernel
theorem dX10_mask_133 : decode cX10_mask 133 = .ok (.iload 4, 2) := by decide +kernel
theorem dX10_mask_135 : decode cX10_mask 135 = .ok (.if_icmp .lt 8, 3) := by decide +kernel
theorem dX10_mask_138 : decode cX10_mask 138 = .ok (.iload 8, 2) := by decide +kernel
theorem dX10_mask_140 : decode cX10_mask 140 = .ok (.goto 5, 3) := by decide +kernel
theorem dX10_mask_143 : decode cX10_mask 143 = .ok (.iload 7, 2) := by decide +kernel
theorem dX10_mask_145 : decode cX10_mask 145 = .ok (.istore 7, 2) := by decide +kernel
theorem dX10_mask_147 : decode cX10_mask 147 = .ok (.iinc 8 1, 3) := by decide +kernel
theorem dX10_mask_150 : decode cX10_mask 150 = .ok (.goto (-66), 3) := by decide +kernel
theorem dX10_mask_153 : decode cX10_mask 153 = .ok (.aload_n 0, 1) := by decide +kernel
theorem dX10_mask_154 : decode cX10_mask 154 = .ok (.getfield 13, 3) := by decide +kernel
theorem dX10_mask_157 : decode cX10_mask 157 = .ok (.iload_n 2, 1) := by decide +kernel
theorem dX10_mask_158 : decode cX10_mask 158 = .ok (.iload 6, 2) := by decide +kernel
theorem dX10_mask_160 : decode cX10_mask 160 = .ok (.iastore, 1) := by decide +kernel
theorem dX10_mask_161 : decode cX10_mask 161 = .ok (.iload 7, 2) := by decide +kernel
theorem dX10_mask_163 : decode cX10_mask 163 = .ok (.ireturn, 1) := by decide +kernel
theorem dX10_spoil_0 : decode cX10_spoil 0 = .ok (.aload_n 0, 1) := by decide +kernel
theorem dX10_spoil_1 : decode cX10_spoil 1 = .ok (.iload 4, 2) := by decide +kernel
theorem dX10_spoil_3 : decode cX10_spoil 3 = .ok (.invokevirtual 70, 3) := by decide +kernel
theorem dX10_spoil_6 : decode cX10_spoil 6 = .ok (.ifCond .eq 19, 3) := by decide +kernel
theorem dX10_spoil_9 : decode cX10_spoil 9 = .ok (.iload 4, 2) := by decide +kernel
theorem dX10_spoil_11 : decode cX10_spoil 11 = .ok (.iload_n 2, 1) := by decide +kernel
theorem dX10_spoil_12 : decode cX10_spoil 12 = .ok (.if_icmp .eq 13, 3) := by decide +kernel
theorem dX10_spoil_15 : decode cX10_spoil 15 = .ok (.aload_n 0, 1) := by decide +kernel
theorem dX10_spoil_16 : decode cX10_spoil 16 = .ok (.iload_n 1, 1) := by decide +kernel
theorem dX10_spoil_17 : decode cX10_spoil 17 = .ok (.iload_n 2, 1) := by decide +kernel
theorem dX10_spoil_18 : decode cX10_spoil 18 = .ok (.iload_n 3, 1) := by decide +kernel
theorem dX10_spoil_19 : decode cX10_spoil 19 = .ok (.invokevirtual 184, 3) := by decide +kernel
theorem dX10_spoil_22 : decode cX10_spoil 22 = .ok (.goto 5, 3) := by decide +kernel
theorem dX10_spoil_25 : decode cX10_spoil 25 = .ok (.ldc 152, 2) := by decide +kernel
theorem dX10_spoil_27 : decode cX10_spoil 27 = .ok (.istore 5, 2) := by decide +kernel
theorem dX10_spoil_29 : decode cX10_spoil 29 = .ok (.iload 5, 2) := by decide +kernel
theorem dX10_spoil_31 : decode cX10_spoil 31 = .ok (.ifCond .ne 17, 3) := by decide +kernel
theorem dX10_spoil_34 : decode cX10_spoil 34 = .ok (.iload_n 3, 1) := by decide +kernel
theorem dX10_spoil_35 : decode cX10_spoil 35 = .ok (.iload 4, 2) := by decide +kernel
theorem dX10_spoil_37 : decode cX10_spoil 37 = .ok (.invokestatic 160, 3) := by decide +kernel
theorem dX10_spoil_40 : decode cX10_spoil 40 = .ok (.ifCond .ne 8, 3) := by decide +kernel
theorem dX10_spoil_43 : decode cX10_spoil 43 = .ok (.ldc 76, 2) := by decide +kernel
theorem dX10_spoil_45 : decode cX10_spoil 45 = .ok (.goto 5, 3) := by decide +kernel
theorem dX10_spoil_48 : decode cX10_spoil 48 = .ok (.iload 5, 2) := by decide +kernel
theorem dX10_spoil_50 : decode cX10_spoil 50 = .ok (.istore 5, 2) := by decide +kernel
theorem dX10_spoil_52 : decode cX10_spoil 52 = .ok (.iload 5, 2) := by decide +kernel
theorem dX10_spoil_54 : decode cX10_spoil 54 = .ok (.ifCond .eq 8, 3) := by decide +kernel
theorem dX10_spoil_57 : decode cX10_spoil 57 = .ok (.iload 5, 2) := by decide +kernel
theorem dX10_spoil_59 : decode cX10_spoil 59 = .ok (.goto 9, 3) := by decide +kernel
theorem dX10_spoil_62 : decode cX10_spoil 62 = .ok (.aload_n 0, 1) := by decide +kernel
theorem dX10_spoil_63 : decode cX10_spoil 63 = .ok (.iload_n 1, 1) := by decide +kernel
theorem dX10_spoil_64 : decode cX10_spoil 64 = .ok (.iload_n 2, 1) := by decide +kernel
theorem dX10_spoil_65 : decode cX10_spoil 65 = .ok (.invokevirtual 188, 3) := by decide +kernel
theorem dX10_spoil_68 : decode cX10_spoil 68 = .ok (.istore 5, 2) := by decide +kernel
theorem dX10_spoil_70 : decode cX10_spoil 70 = .ok (.iload 5, 2) := by decide +kernel
theorem dX10_spoil_72 : decode cX10_spoil 72 = .ok (.ifCond .eq 6, 3) := by decide +kernel
theorem dX10_spoil_75 : decode cX10_spoil 75 = .ok (.iload 5, 2) := by decide +kernel
theorem dX10_spoil_77 : decode cX10_spoil 77 = .ok (.ireturn, 1) := by decide +kernel
theorem dX10_spoil_78 : decode cX10_spoil 78 = .ok (.aload_n 0, 1) := by decide +kernel
theorem dX10_spoil_79 : decode cX10_spoil 79 = .ok (.getfield 13, 3) := by decide +kernel
theorem dX10_spoil_82 : decode cX10_spoil 82 = .ok (.iload 4, 2) := by decide +kernel
theorem dX10_spoil_84 : decode cX10_spoil 84 = .ok (.iaload, 1) := by decide +kernel
theorem dX10_spoil_85 : decode cX10_spoil 85 = .ok (.istore 6, 2) := by decide +kernel
theorem dX10_spoil_87 : decode cX10_spoil 87 = .ok (.iconst (-1), 1) := by decide +kernel
theorem dX10_spoil_88 : decode cX10_spoil 88 = .ok (.istore 7, 2) := by decide +kernel
theorem dX10_spoil_90 : decode cX10_spoil 90 = .ok (.iconst 0, 1) := by decide +kernel
theorem dX10_spoil_91 : decode cX10_spoil 91 = .ok (.istore 8, 2) := by decide +kernel
theorem dX10_spoil_93 : decode cX10_spoil 93 = .ok (.iload 8, 2) := by decide +kernel
theorem dX10_spoil_95 : decode cX10_spoil 95 = .ok (.sipush 256, 3) := by decide +kernel
theorem dX10_spoil_98 : decode cX10_spoil 98 = .ok (.if_icmp .ge 64, 3) := by decide +kernel
theorem dX10_spoil_101 : decode cX10_spoil 101 = .ok (.iload 7, 2) := by decide +kernel
theorem dX10_spoil_103 : decode cX10_spoil 103 = .ok (.ifCond .lt 16, 3) := by decide +kernel
theorem dX10_spoil_106 : decode cX10_spoil 106 = .ok (.iload 8, 2) := by decide +kernel
theorem dX10_spoil_108 : decode cX10_spoil 108 = .ok (.invokestatic 140, 3) := by decide +kernel
theorem dX10_spoil_111 : decode cX10_spoil 111 = .ok (.iload 7, 2) := by decide +kernel
theorem dX10_spoil_113 : decode cX10_spoil 113 = .ok (.invokestatic 140, 3) := by decide +kernel
theorem dX10_spoil_116 : decode cX10_spoil 116 = .ok (.if_icmp .ge 40, 3) := by decide +kernel
theorem dX10_spoil_119 : decode cX10_spoil 119 = .ok (.aload_n 0, 1) := by decide +kernel
theorem dX10_spoil_120 : decode cX10_spoil 120 = .ok (.getfield 13, 3) := by decide +kernel
theorem dX10_spoil_123 : decode cX10_spoil 123 = .ok (.iload 4, 2) := by decide +kernel
theorem dX10_spoil_125 : decode cX10_spoil 125 = .ok (.iload 6, 2) := by decide +kernel
theorem dX10_spoil_127 : decode cX10_spoil 127 = .ok (.iload 8, 2) := by decide +kernel
theorem dX10_spoil_129 : decode cX10_spoil 129 = .ok (.ixor, 1) := by decide +kernel
theorem dX10_spoil_130 : decode cX10_spoil 130 = .ok (.iastore, 1) := by decide +kernel
theorem dX10_spoil_131 : decode cX10_spoil 131 = .ok (.aload_n 0, 1) := by decide +kernel
theorem dX10_spoil_132 : decode cX10_spoil 132 = .ok (.aload_n 0, 1) := by decide +kernel
theorem dX10_spoil_133 : decode cX10_spoil 133 = .ok (.iload_n 1, 1) := by decide +kernel
theorem dX10_spoil_134 : decode cX10_spoil 134 = .ok (.iload_n 2, 1) := by decide +kernel
theorem dX10_spoil_135 : decode cX10_spoil 135 = .ok (.invokevirtual 133, 3) := by decide +kernel
theorem dX10_spoil_138 : decode cX10_spoil 138 = .ok (.iload_n 3, 1) := by decide +kernel
theorem dX10_spoil_139 : decode cX10_spoil 139 = .ok (.invokevirtual 166, 3) := by decide +kernel
theorem dX10_spoil_142 : decode cX10_spoil 142 = .ok (.iload 4, 2) := by decide +kernel
theorem dX10_spoil_144 : decode cX10_spoil 144 = .ok (.if_icmp .ne 8, 3) := by decide +kernel
theorem dX10_spoil_147 : decode cX10_spoil 147 = .ok (.iload 8, 2) := by decide +kernel
theorem dX10_spoil_149 : decode cX10_spoil 149 = .ok (.goto 5, 3) := by decide +kernel
theorem dX10_spoil_152 : decode cX10_spoil 152 = .ok (.iload 7, 2) := by decide +kernel
theorem dX10_spoil_154 : decode cX10_spoil 154 = .ok (.istore 7, 2) := by decide +kernel
theorem dX10_spoil_156 : decode cX10_spoil 156 = .ok (.iinc 8 1, 3) := by decide +kernel
theorem dX10_spoil_159 : decode cX10_spoil 159 = .ok (.goto (-66), 3) := by decide +kernel
theorem dX10_spoil_162 : decode cX10_spoil 162 = .ok (.aload_n 0, 1) := by decide +kernel
theorem dX10_spoil_163 : decode cX10_spoil 163 = .ok (.getfield 13, 3) := by decide +kernel
theorem dX10_spoil_166 : decode cX10_spoil 166 = .ok (.iload 4, 2) := by decide +kernel
theorem dX10_spoil_168 : decode cX10_spoil 168 = .ok (.iload 6, 2) := by decide +kernel
theorem dX10_spoil_170 : decode cX10_spoil 170 = .ok (.iastore, 1) := by decide +kernel
theorem dX10_spoil_171 : decode cX10_spoil 171 = .ok (.iload 7, 2) := by decide +kernel
theorem dX10_spoil_173 : decode cX10_spoil 173 = .ok (.ireturn, 1) := by decide +kernel
theorem dX10_impostor_0 : decode cX10_impostor 0 = .ok (.aload_n 0, 1) := by decide +kernel
theorem dX10_impostor_1 : decode cX10_impostor 1 = .ok (.iload_n 1, 1) := by decide +kernel
theorem dX10_impostor_2 : decode cX10_impostor 2 = .ok (.iload_n 2, 1) := by decide +kernel
theorem dX10_impostor_3 : decode cX10_impostor 3 = .ok (.invokevirtual 156, 3) := by decide +kernel
theorem dX10_impostor_6 : decode cX10_impostor 6 = .ok (.ifCond .eq 16, 3) := by decide +kernel
theorem dX10_impostor_9 : decode cX10_impostor 9 = .ok (.aload_n 0, 1) := by decide +kernel
theorem dX10_impostor_10 : decode cX10_impostor 10 = .ok (.iload_n 3, 1) := by decide +kernel
theorem dX10_impostor_11 : decode cX10_impostor 11 = .ok (.invokevirtual 70, 3) := by decide +kernel
theorem dX10_impostor_14 : decode cX10_impostor 14 = .ok (.ifCond .eq 8, 3) := by decide +kernel
theorem dX10_impostor_17 : decode cX10_impostor 17 = .ok (.iload_n 3, 1) := by decide +kernel
theorem dX10_impostor_18 : decode cX10_impostor 18 = .ok (.iload_n 1, 1) := by decide +kernel
theorem dX10_impostor_19 : decode cX10_impostor 19 = .ok (.if_icmp .ne 6, 3) := by decide +kernel
theorem dX10_impostor_22 : decode cX10_impostor 22 = .ok (.ldc 152, 2) := by decide +kernel
theorem dX10_impostor_24 : decode cX10_impostor 24 = .ok (.ireturn, 1) := by decide +kernel
theorem dX10_impostor_25 : decode cX10_impostor 25 = .ok (.iload 4, 2) := by decide +kernel
theorem dX10_impostor_27 : decode cX10_impostor 27 = .ok (.i2l, 1) := by decide +kernel
theorem dX10_impostor_28 : decode cX10_impostor 28 = .ok (.ldc2_w 209, 3) := by decide +kernel
theorem dX10_impostor_31 : decode cX10_impostor 31 = .ok (.ldc2_w 211, 3) := by decide +kernel
theorem dX10_impostor_34 : decode cX10_impostor 34 = .ok (.invokestatic 66, 3) := by decide +kernel
theorem dX10_impostor_37 : decode cX10_impostor 37 = .ok (.ifCond .eq 14, 3) := by decide +kernel
theorem dX10_impostor_40 : decode cX10_impostor 40 = .ok (.iload 5, 2) := by decide +kernel
theorem dX10_impostor_42 : decode cX10_impostor 42 = .ok (.i2l, 1) := by decide +kernel
theorem dX10_impostor_43 : decode cX10_impostor 43 = .ok (.lconst 0, 1) := by decide +kernel
theorem dX10_impostor_44 : decode cX10_impostor 44 = .ok (.lconst 1, 1) := by decide +kernel
theorem dX10_impostor_45 : decode cX10_impostor 45 = .ok (.invokestatic 66, 3) := by decide +kernel
theorem dX10_impostor_48 : decode cX10_impostor 48 = .ok (.ifCond .ne 6, 3) := by decide +kernel
theorem dX10_impostor_51 : decode cX10_impostor 51 = .ok (.ldc 76, 2) := by decide +kernel
theorem dX10_impostor_53 : decode cX10_impostor 53 = .ok (.ireturn, 1) := by decide +kernel
theorem dX10_impostor_54 : decode cX10_impostor 54 = .ok (.aload_n 0, 1) := by decide +kernel
theorem dX10_impostor_55 : decode cX10_impostor 55 = .ok (.iload_n 1, 1) := by decide +kernel
theorem dX10_impostor_56 : decode cX10_impostor 56 = .ok (.iload_n 2, 1) := by decide +kernel
theorem dX10_impostor_57 : decode cX10_impostor 57 = .ok (.invokevirtual 133, 3) := by decide +kernel
theorem dX10_impostor_60 : decode cX10_impostor 60 = .ok (.ifCond .ge 6, 3) := by decide +kernel
theorem dX10_impostor_63 : decode cX10_impostor 63 = .ok (.ldc 171, 2) := by decide +kernel
theorem dX10_impostor_65 : decode cX10_impostor 65 = .ok (.ireturn, 1) := by decide +kernel
theorem dX10_impostor_66 : decode cX10_impostor 66 = .ok (.iconst 0, 1) := by decide +kernel
theorem dX10_impostor_67 : decode cX10_impostor 67 = .ok (.istore 6, 2) := by decide +kernel
theorem dX10_impostor_69 : decode cX10_impostor 69 = .ok (.iconst (-1), 1) := by decide +kernel
theorem dX10_impostor_70 : decode cX10_impostor 70 = .ok (.istore 7, 2) := by decide +kernel
theorem dX10_impostor_72 : decode cX10_impostor 72 = .ok (.iconst 0, 1) := by decide +kernel
theorem dX10_impostor_73 : decode cX10_impostor 73 = .ok (.istore 8, 2) := by decide +kernel
theorem dX10_impostor_75 : decode cX10_impostor 75 = .ok (.iload 8, 2) := by decide +kernel
theorem dX10_impostor_77 : decode cX10_impostor 77 = .ok (.iconst 1, 1) := by decide +kernel
theorem dX10_impostor_78 : decode cX10_impostor 78 = .ok (.aload_n 0, 1) := by decide +kernel
theorem dX10_impostor_79 : decode cX10_impostor 79 = .ok (.getfield 63, 3) := by decide +kernel
theorem dX10_impostor_82 : decode cX10_impostor 82 = .ok (.ishl, 1) := by decide +kernel
theorem dX10_impostor_83 : decode cX10_impostor 83 = .ok (.if_icmp .ge 70, 3) := by decide +kernel
theorem dX10_impostor_86 : decode cX10_impostor 86 = .ok (.iload 8, 2) := by decide +kernel
theorem dX10_impostor_88 : decode cX10_impostor 88 = .ok (.invokestatic 140, 3) := by decide +kernel
theorem dX10_impostor_91 : decode cX10_impostor 91 = .ok (.iload 4, 2) := by decide +kernel
theorem dX10_impostor_93 : decode cX10_impostor 93 = .ok (.if_icmp .ne 54, 3) := by decide +kernel
theorem dX10_impostor_96 : decode cX10_impostor 96 = .ok (.iload 8, 2) := by decide +kernel
theorem dX10_impostor_98 : decode cX10_impostor 98 = .ok (.iload_n 3, 1) := by decide +kernel
theorem dX10_impostor_99 : decode cX10_impostor 99 = .ok (.invokestatic 160, 3) := by decide +kernel
theorem dX10_impostor_102 : decode cX10_impostor 102 = .ok (.ifCond .eq 45, 3) := by decide +kernel
theorem dX10_impostor_105 : decode cX10_impostor 105 = .ok (.iload 8, 2) := by decide +kernel
theorem dX10_impostor_107 : decode cX10_impostor 107 = .ok (.iload_n 1, 1) := by decide +kernel
theorem dX10_impostor_108 : decode cX10_impostor 108 = .ok (.invokestatic 160, 3) := by decide +kernel
theorem dX10_impostor_111 : decode cX10_impostor 111 = .ok (.ifCond .ne 36, 3) := by decide +kernel
theorem dX10_impostor_114 : decode cX10_impostor 114 = .ok (.aload_n 0, 1) := by decide +kernel
theorem dX10_impostor_115 : decode cX10_impostor 115 = .ok (.aload_n 0, 1) := by decide +kernel
theorem dX10_impostor_116 : decode cX10_impostor 116 = .ok (.iload_n 1, 1) := by decide +kernel
theorem dX10_impostor_117 : decode cX10_impostor 117 = .ok (.iload_n 2, 1) := by decide +kernel
theorem dX10_impostor_118 : decode cX10_impostor 118 = .ok (.invokevirtual 133, 3) := by decide +kernel
theorem dX10_impostor_121 : decode cX10_impostor 121 = .ok (.iload 8, 2) := by decide +kernel
theorem dX10_impostor_123 : decode cX10_impostor 123 = .ok (.invokevirtual 166, 3) := by decide +kernel
theorem dX10_impostor_126 : decode cX10_impostor 126 = .ok (.iload_n 3, 1) := by decide +kernel
theorem dX10_impostor_127 : decode cX10_impostor 127 = .ok (.if_icmp .ne 20, 3) := by decide +kernel
theorem dX10_impostor_130 : decode cX10_impostor 130 = .ok (.iload 6, 2) := by decide +kernel
theorem dX10_impostor_132 : decode cX10_impostor 132 = .ok (.ifCond .ne 8, 3) := by decide +kernel
theorem dX10_impostor_135 : decode cX10_impostor 135 = .ok (.iload 8, 2) := by decide +kernel
theorem dX10_impostor_137 : decode cX10_impostor 137 = .ok (.goto 5, 3) := by decide +kernel
theorem dX10_impostor_140 : decode cX10_impostor 140 = .ok (.iload 7, 2) := by decide +kernel
theorem dX10_impostor_142 : decode cX10_impostor 142 = .ok (.istore 7, 2) := by decide +kernel
theorem dX10_impostor_144 : decode cX10_impostor 144 = .ok (.iinc 6 1, 3) := by decide +kernel
theorem dX10_impostor_147 : decode cX10_impostor 147 = .ok (.iinc 8 1, 3) := by decide +kernel
theorem dX10_impostor_150 : decode cX10_impostor 150 = .ok (.goto (-75), 3) := by decide +kernel
theorem dX10_impostor_153 : decode cX10_impostor 153 = .ok (.iload 5, 2) := by decide +kernel
theorem dX10_impostor_155 : decode cX10_impostor 155 = .ok (.ifCond .ne 8, 3) := by decide +kernel
theorem dX10_impostor_158 : decode cX10_impostor 158 = .ok (.iload 6, 2) := by decide +kernel
theorem dX10_impostor_160 : decode cX10_impostor 160 = .ok (.goto 5, 3) := by decide +kernel
theorem dX10_impostor_163 : decode cX10_impostor 163 = .ok (.iload 7, 2) := by decide +kernel
theorem dX10_impostor_165 : decode cX10_impostor 165 = .ok (.ireturn, 1) := by decide +kernel
theorem dX10_lost_0 : decode cX10_lost 0 = .ok (.iconst 0, 1) := by decide +kernel
theorem dX10_lost_1 : decode cX10_lost 1 = .ok (.istore_n 2, 1) := by decide +kernel
theorem dX10_lost_2 : decode cX10_lost 2 = .ok (.iconst 0, 1) := by decide +kernel
theorem dX10_lost_3 : decode cX10_lost 3 = .ok (.istore_n 3, 1) := by decide +kernel
theorem dX10_lost_4 : decode cX10_lost 4 = .ok (.iload_n 3, 1) := by decide +kernel
theorem dX10_lost_5 : decode cX10_lost 5 = .ok (.bipush 64, 2) := by decide +kernel
theorem dX10_lost_7 : decode cX10_lost 7 = .ok (.if_icmp .ge 64, 3) := by decide +kernel
theorem dX10_lost_10 : decode cX10_lost 10 = .ok (.aload_n 0, 1) := by decide +kernel
theorem dX10_lost_11 : decode cX10_lost 11 = .ok (.getfield 13, 3) := by decide +kernel
theorem dX10_lost_14 : decode cX10_lost 14 = .ok (.bipush 16, 2) := by decide +kernel
theorem dX10_lost_16 : decode cX10_lost 16 = .ok (.iload_n 3, 1) := by decide +kernel
theorem dX10_lost_17 : decode cX10_lost 17 = .ok (.iadd, 1) := by decide +kernel
theorem dX10_lost_18 : decode cX10_lost 18 = .ok (.iaload, 1) := by decide +kernel
theorem dX10_lost_19 : decode cX10_lost 19 = .ok (.istore 4, 2) := by decide +kernel
theorem dX10_lost_21 : decode cX10_lost 21 = .ok (.iload 4, 2) := by decide +kernel
theorem dX10_lost_23 : decode cX10_lost 23 = .ok (.ifCond .lt 42, 3) := by decide +kernel
theorem dX10_lost_26 : decode cX10_lost 26 = .ok (.iload 4, 2) := by decide +kernel
theorem dX10_lost_28 : decode cX10_lost 28 = .ok (.aload_n 0, 1) := by decide +kernel
theorem dX10_lost_29 : decode cX10_lost 29 = .ok (.getfield 13, 3) := by decide +kernel
theorem dX10_lost_32 : decode cX10_lost 32 = .ok (.iload_n 3, 1) := by decide +kernel
theorem dX10_lost_33 : decode cX10_lost 33 = .ok (.bipush 8, 2) := by decide +kernel
theorem dX10_lost_35 : decode cX10_lost 35 = .ok (.irem, 1) := by decide +kernel
theorem dX10_lost_36 : decode cX10_lost 36 = .ok (.iaload, 1) := by decide +kernel
theorem dX10_lost_37 : decode cX10_lost 37 = .ok (.invokestatic 163, 3) := by decide +kernel
theorem dX10_lost_40 : decode cX10_lost 40 = .ok (.iconst 3, 1) := by decide +kernel
theorem dX10_lost_41 : decode cX10_lost 41 = .ok (.if_icmp .lt 24, 3) := by decide +kernel
theorem dX10_lost_44 : decode cX10_lost 44 = .ok (.iload_n 2, 1) := by decide +kernel
theorem dX10_lost_45 : decode cX10_lost 45 = .ok (.iload_n 1, 1) := by decide +kernel
theorem dX10_lost_46 : decode cX10_lost 46 = .ok (.if_icmp .ne 16, 3) := by decide +kernel
theorem dX10_lost_49 : decode cX10_lost 49 = .ok (.bipush 10, 2) := by decide +kernel
theorem dX10_lost_51 : decode cX10_lost 51 = .ok (.iload_n 3, 1) := by decide +kernel
theorem dX10_lost_52 : decode cX10_lost 52 = .ok (.bipush 8, 2) := by decide +kernel
theorem dX10_lost_54 : decode cX10_lost 54 = .ok (.idiv, 1) := by decide +kernel
theorem dX10_lost_55 : decode cX10_lost 55 = .ok (.imul, 1) := by decide +kernel
theorem dX10_lost_56 : decode cX10_lost 56 = .ok (.iload_n 3, 1) := by decide +kernel
theorem dX10_lost_57 : decode cX10_lost 57 = .ok (.bipush 8, 2) := by decide +kernel
theorem dX10_lost_59 : decode cX10_lost 59 = .ok (.irem, 1) := by decide +kernel
theorem dX10_lost_60 : decode cX10_lost 60 = .ok (.iadd, 1) := by decide +kernel
theorem dX10_lost_61 : decode cX10_lost 61 = .ok (.ireturn, 1) := by decide +kernel
theorem dX10_lost_62 : decode cX10_lost 62 = .ok (.iinc 2 1, 3) := by decide +kernel
theorem dX10_lost_65 : decode cX10_lost 65 = .ok (.iinc 3 1, 3) := by decide +kernel
theorem dX10_lost_68 : decode cX10_lost 68 = .ok (.goto (-64), 3) := by decide +kernel
theorem dX10_lost_71 : decode cX10_lost 71 = .ok (.iload_n 1, 1) := by decide +kernel
theorem dX10_lost_72 : decode cX10_lost 72 = .ok (.iconst (-1), 1) := by decide +kernel
theorem dX10_lost_73 : decode cX10_lost 73 = .ok (.if_icmp .ne 7, 3) := by decide +kernel
theorem dX10_lost_76 : decode cX10_lost 76 = .ok (.iload_n 2, 1) := by decide +kernel
theorem dX10_lost_77 : decode cX10_lost 77 = .ok (.goto 4, 3) := by decide +kernel
theorem dX10_lost_80 : decode cX10_lost 80 = .ok (.iconst (-1), 1) := by decide +kernel
theorem dX10_lost_81 : decode cX10_lost 81 = .ok (.ireturn, 1) := by decide +kernel
theorem dX10_alike_0 : decode cX10_alike 0 = .ok (.iload_n 1, 1) := by decide +kernel
theorem dX10_alike_1 : decode cX10_alike 1 = .ok (.i2l, 1) := by decide +kernel
theorem dX10_alike_2 : decode cX10_alike 2 = .ok (.lconst 0, 1) := by decide +kernel
theorem dX10_alike_3 : decode cX10_alike 3 = .ok (.ldc2_w 169, 3) := by decide +kernel
theorem dX10_alike_6 : decode cX10_alike 6 = .ok (.invokestatic 66, 3) := by decide +kernel
theorem dX10_alike_9 : decode cX10_alike 9 = .ok (.ifCond .ne 6, 3) := by decide +kernel
theorem dX10_alike_12 : decode cX10_alike 12 = .ok (.ldc 76, 2) := by decide +kernel
theorem dX10_alike_14 : decode cX10_alike 14 = .ok (.ireturn, 1) := by decide +kernel
theorem dX10_alike_15 : decode cX10_alike 15 = .ok (.iconst 0, 1) := by decide +kernel
theorem dX10_alike_16 : decode cX10_alike 16 = .ok (.istore_n 2, 1) := by decide +kernel
theorem dX10_alike_17 : decode cX10_alike 17 = .ok (.iload_n 2, 1) := by decide +kernel
theorem dX10_alike_18 : decode cX10_alike 18 = .ok (.aload_n 0, 1) := by decide +kernel
theorem dX10_alike_19 : decode cX10_alike 19 = .ok (.getfield 63, 3) := by decide +kernel
theorem dX10_alike_22 : decode cX10_alike 22 = .ok (.if_icmp .ge 75, 3) := by decide +kernel
theorem dX10_alike_25 : decode cX10_alike 25 = .ok (.aload_n 0, 1) := by decide +kernel
theorem dX10_alike_26 : decode cX10_alike 26 = .ok (.getfield 36, 3) := by decide +kernel
theorem dX10_alike_29 : decode cX10_alike 29 = .ok (.iload_n 2, 1) := by decide +kernel
theorem dX10_alike_30 : decode cX10_alike 30 = .ok (.aload_n 0, 1) := by decide +kernel
theorem dX10_alike_31 : decode cX10_alike 31 = .ok (.getfield 13, 3) := by decide +kernel
theorem dX10_alike_34 : decode cX10_alike 34 = .ok (.iload_n 2, 1) := by decide +kernel
theorem dX10_alike_35 : decode cX10_alike 35 = .ok (.iaload, 1) := by decide +kernel
theorem dX10_alike_36 : decode cX10_alike 36 = .ok (.iastore, 1) := by decide +kernel
theorem dX10_alike_37 : decode cX10_alike 37 = .ok (.iconst 0, 1) := by decide +kernel
theorem dX10_alike_38 : decode cX10_alike 38 = .ok (.istore_n 3, 1) := by decide +kernel
theorem dX10_alike_39 : decode cX10_alike 39 = .ok (.iload_n 3, 1) := by decide +kernel
theorem dX10_alike_40 : decode cX10_alike 40 = .ok (.iload_n 1, 1) := by decide +kernel
theorem dX10_alike_41 : decode cX10_alike 41 = .ok (.if_icmp .ge 50, 3) := by decide +kernel
theorem dX10_alike_44 : decode cX10_alike 44 = .ok (.aload_n 0, 1) := by decide +kernel
theorem dX10_alike_45 : decode cX10_alike 45 = .ok (.getfield 7, 3) := by decide +kernel
theorem dX10_alike_48 : decode cX10_alike 48 = .ok (.iload_n 2, 1) := by decide +kernel
theorem dX10_alike_49 : decode cX10_alike 49 = .ok (.iaload, 1) := by decide +kernel
theorem dX10_alike_50 : decode cX10_alike 50 = .ok (.ifCond .le 41, 3) := by decide +kernel
theorem dX10_alike_53 : decode cX10_alike 53 = .ok (.aload_n 0, 1) := by decide +kernel
theorem dX10_alike_54 : decode cX10_alike 54 = .ok (.getfield 36, 3) := by decide +kernel
theorem dX10_alike_57 : decode cX10_alike 57 = .ok (.iload_n 2, 1) := by decide +kernel
theorem dX10_alike_58 : decode cX10_alike 58 = .ok (.dup2, 1) := by decide +kernel
theorem dX10_alike_59 : decode cX10_alike 59 = .ok (.iaload, 1) := by decide +kernel
theorem dX10_alike_60 : decode cX10_alike 60 = .ok (.iconst 1, 1) := by decide +kernel
theorem dX10_alike_61 : decode cX10_alike 61 = .ok (.aload_n 0, 1) := by decide +kernel
theorem dX10_alike_62 : decode cX10_alike 62 = .ok (.getfield 13, 3) := by decide +kernel
theorem dX10_alike_65 : decode cX10_alike 65 = .ok (.bipush 80, 2) := by decide +kernel
theorem dX10_alike_67 : decode cX10_alike 67 = .ok (.iaload, 1) := by decide +kernel
theorem dX10_alike_68 : decode cX10_alike 68 = .ok (.iload_n 3, 1) := by decide +kernel
theorem dX10_alike_69 : decode cX10_alike 69 = .ok (.iadd, 1) := by decide +kernel
theorem dX10_alike_70 : decode cX10_alike 70 = .ok (.aload_n 0, 1) := by decide +kernel
theorem dX10_alike_71 : decode cX10_alike 71 = .ok (.getfield 7, 3) := by decide +kernel
theorem dX10_alike_74 : decode cX10_alike 74 = .ok (.iload_n 2, 1) := by decide +kernel
theorem dX10_alike_75 : decode cX10_alike 75 = .ok (.iaload, 1) := by decide +kernel
theorem dX10_alike_76 : decode cX10_alike 76 = .ok (.imul, 1) := by decide +kernel
theorem dX10_alike_77 : decode cX10_alike 77 = .ok (.iload_n 2, 1) := by decide +kernel
theorem dX10_alike_78 : decode cX10_alike 78 = .ok (.iadd, 1) := by decide +kernel
theorem dX10_alike_79 : decode cX10_alike 79 = .ok (.bipush 8, 2) := by decide +kernel
theorem dX10_alike_81 : decode cX10_alike 81 = .ok (.irem, 1) := by decide +kernel
theorem dX10_alike_82 : decode cX10_alike 82 = .ok (.ishl, 1) := by decide +kernel
theorem dX10_alike_83 : decode cX10_alike 83 = .ok (.ixor, 1) := by decide +kernel
theorem dX10_alike_84 : decode cX10_alike 84 = .ok (.iastore, 1) := by decide +kernel
theorem dX10_alike_85 : decode cX10_alike 85 = .ok (.iinc 3 1, 3) := by decide +kernel
theorem dX10_alike_88 : decode cX10_alike 88 = .ok (.goto (-49), 3) := by decide +kernel
theorem dX10_alike_91 : decode cX10_alike 91 = .ok (.iinc 2 1, 3) := by decide +kernel
theorem dX10_alike_94 : decode cX10_alike 94 = .ok (.goto (-77), 3) := by decide +kernel
theorem dX10_alike_97 : decode cX10_alike 97 = .ok (.iconst 0, 1) := by decide +kernel
theorem dX10_alike_98 : decode cX10_alike 98 = .ok (.istore_n 2, 1) := by decide +kernel
theorem dX10_alike_99 : decode cX10_alike 99 = .ok (.iload_n 2, 1) := by decide +kernel
theorem dX10_alike_100 : decode cX10_alike 100 = .ok (.bipush 64, 2) := by decide +kernel
theorem dX10_alike_102 : decode cX10_alike 102 = .ok (.if_icmp .ge 59, 3) := by decide +kernel
theorem dX10_alike_105 : decode cX10_alike 105 = .ok (.iload_n 2, 1) := by decide +kernel
theorem dX10_alike_106 : decode cX10_alike 106 = .ok (.bipush 8, 2) := by decide +kernel
theorem dX10_alike_108 : decode cX10_alike 108 = .ok (.idiv, 1) := by decide +kernel
theorem dX10_alike_109 : decode cX10_alike 109 = .ok (.istore_n 3, 1) := by decide +kernel
theorem dX10_alike_110 : decode cX10_alike 110 = .ok (.iload_n 2, 1) := by decide +kernel
theorem dX10_alike_111 : decode cX10_alike 111 = .ok (.bipush 8, 2) := by decide +kernel
theorem dX10_alike_113 : decode cX10_alike 113 = .ok (.irem, 1) := by decide +kernel
theorem dX10_alike_114 : decode cX10_alike 114 = .ok (.istore 4, 2) := by decide +kernel
theorem dX10_alike_116 : decode cX10_alike 116 = .ok (.iload_n 3, 1) := by decide +kernel
theorem dX10_alike_117 : decode cX10_alike 117 = .ok (.iload 4, 2) := by decide +kernel
theorem dX10_alike_119 : decode cX10_alike 119 = .ok (.if_icmp .ge 36, 3) := by decide +kernel
theorem dX10_alike_122 : decode cX10_alike 122 = .ok (.iload 4, 2) := by decide +kernel
theorem dX10_alike_124 : decode cX10_alike 124 = .ok (.aload_n 0, 1) := by decide +kernel
theorem dX10_alike_125 : decode cX10_alike 125 = .ok (.getfield 63, 3) := by decide +kernel
theorem dX10_alike_128 : decode cX10_alike 128 = .ok (.if_icmp .ge 27, 3) := by decide +kernel
theorem dX10_alike_131 : decode cX10_alike 131 = .ok (.aload_n 0, 1) := by decide +kernel
theorem dX10_alike_132 : decode cX10_alike 132 = .ok (.getfield 36, 3) := by decide +kernel
theorem dX10_alike_135 : decode cX10_alike 135 = .ok (.iload_n 3, 1) := by decide +kernel
theorem dX10_alike_136 : decode cX10_alike 136 = .ok (.iaload, 1) := by decide +kernel
theorem dX10_alike_137 : decode cX10_alike 137 = .ok (.aload_n 0, 1) := by decide +kernel
theorem dX10_alike_138 : decode cX10_alike 138 = .ok (.getfield 36, 3) := by decide +kernel
theorem dX10_alike_141 : decode cX10_alike 141 = .ok (.iload 4, 2) := by decide +kernel
theorem dX10_alike_143 : decode cX10_alike 143 = .ok (.iaload, 1) := by decide +kernel
theorem dX10_alike_144 : decode cX10_alike 144 = .ok (.if_icmp .ne 11, 3) := by decide +kernel
theorem dX10_alike_147 : decode cX10_alike 147 = .ok (.bipush 10, 2) := by decide +kernel
theorem dX10_alike_149 : decode cX10_alike 149 = .ok (.iload_n 3, 1) := by decide +kernel
theorem dX10_alike_150 : decode cX10_alike 150 = .ok (.imul, 1) := by decide +kernel
theorem dX10_alike_151 : decode cX10_alike 151 = .ok (.iload 4, 2) := by decide +kernel
theorem dX10_alike_153 : decode cX10_alike 153 = .ok (.iadd, 1) := by decide +kernel
theorem dX10_alike_154 : decode cX10_alike 154 = .ok (.ireturn, 1) := by decide +kernel
theorem dX10_alike_155 : decode cX10_alike 155 = .ok (.iinc 2 1, 3) := by decide +kernel
theorem dX10_alike_158 : decode cX10_alike 158 = .ok (.goto (-59), 3) := by decide +kernel
theorem dX10_alike_161 : decode cX10_alike 161 = .ok (.iconst (-1), 1) := by decide +kernel
theorem dX10_alike_162 : decode cX10_alike 162 = .ok (.ireturn, 1) := by decide +kernel
theorem dX10_see_0 : decode cX10_see 0 = .ok (.aload_n 0, 1) := by decide +kernel
theorem dX10_see_1 : decode cX10_see 1 = .ok (.iload 4, 2) := by decide +kernel
theorem dX10_see_3 : decode cX10_see 3 = .ok (.invokevirtual 70, 3) := by decide +kernel
theorem dX10_see_6 : decode cX10_see 6 = .ok (.ifCond .eq 13, 3) := by decide +kernel
theorem dX10_see_9 : decode cX10_see 9 = .ok (.aload_n 0, 1) := by decide +kernel
theorem dX10_see_10 : decode cX10_see 10 = .ok (.iload_n 1, 1) := by decide +kernel
theorem dX10_see_11 : decode cX10_see 11 = .ok (.iload_n 2, 1) := by decide +kernel
theorem dX10_see_12 : decode cX10_see 12 = .ok (.iload_n 3, 1) := by decide +kernel
theorem dX10_see_13 : decode cX10_see 13 = .ok (.invokevirtual 184, 3) := by decide +kernel
theorem dX10_see_16 : decode cX10_see 16 = .ok (.goto 5, 3) := by decide +kernel
theorem dX10_see_19 : decode cX10_see 19 = .ok (.ldc 152, 2) := by decide +kernel
theorem dX10_see_21 : decode cX10_see 21 = .ok (.istore 5, 2) := by decide +kernel
theorem dX10_see_23 : decode cX10_see 23 = .ok (.iload 5, 2) := by decide +kernel
theorem dX10_see_25 : decode cX10_see 25 = .ok (.ifCond .ne 17, 3) := by decide +kernel
theorem dX10_see_28 : decode cX10_see 28 = .ok (.iload_n 3, 1) := by decide +kernel
theorem dX10_see_29 : decode cX10_see 29 = .ok (.iload 4, 2) := by decide +kernel
theorem dX10_see_31 : decode cX10_see 31 = .ok (.invokestatic 160, 3) := by decide +kernel
theorem dX10_see_34 : decode cX10_see 34 = .ok (.ifCond .ne 8, 3) := by decide +kernel
theorem dX10_see_37 : decode cX10_see 37 = .ok (.ldc 76, 2) := by decide +kernel
theorem dX10_see_39 : decode cX10_see 39 = .ok (.goto 5, 3) := by decide +kernel
theorem dX10_see_42 : decode cX10_see 42 = .ok (.iload 5, 2) := by decide +kernel
theorem dX10_see_44 : decode cX10_see 44 = .ok (.istore 5, 2) := by decide +kernel
theorem dX10_see_46 : decode cX10_see 46 = .ok (.iload 5, 2) := by decide +kernel
theorem dX10_see_48 : decode cX10_see 48 = .ok (.ifCond .eq 8, 3) := by decide +kernel
theorem dX10_see_51 : decode cX10_see 51 = .ok (.iload 5, 2) := by decide +kernel
theorem dX10_see_53 : decode cX10_see 53 = .ok (.goto 9, 3) := by decide +kernel
theorem dX10_see_56 : decode cX10_see 56 = .ok (.aload_n 0, 1) := by decide +kernel
theorem dX10_see_57 : decode cX10_see 57 = .ok (.iload_n 1, 1) := by decide +kernel
theorem dX10_see_58 : decode cX10_see 58 = .ok (.iload_n 2, 1) := by decide +kernel
theorem dX10_see_59 : decode cX10_see 59 = .ok (.invokevirtual 188, 3) := by decide +kernel
theorem dX10_see_62 : decode cX10_see 62 = .ok (.istore 5, 2) := by decide +kernel
theorem dX10_see_64 : decode cX10_see 64 = .ok (.iload 5, 2) := by decide +kernel
theorem dX10_see_66 : decode cX10_see 66 = .ok (.ifCond .eq 6, 3) := by decide +kernel
theorem dX10_see_69 : decode cX10_see 69 = .ok (.iload 5, 2) := by decide +kernel
theorem dX10_see_71 : decode cX10_see 71 = .ok (.ireturn, 1) := by decide +kernel
theorem dX10_see_72 : decode cX10_see 72 = .ok (.aload_n 0, 1) := by decide +kernel
theorem dX10_see_73 : decode cX10_see 73 = .ok (.getfield 124, 3) := by decide +kernel
theorem dX10_see_76 : decode cX10_see 76 = .ok (.bipush 8, 2) := by decide +kernel
theorem dX10_see_78 : decode cX10_see 78 = .ok (.if_icmp .ne 6, 3) := by decide +kernel
theorem dX10_see_81 : decode cX10_see 81 = .ok (.ldc 80, 2) := by decide +kernel
theorem dX10_see_83 : decode cX10_see 83 = .ok (.ireturn, 1) := by decide +kernel
theorem dX10_see_84 : decode cX10_see 84 = .ok (.aload_n 0, 1) := by decide +kernel
theorem dX10_see_85 : decode cX10_see 85 = .ok (.getfield 39, 3) := by decide +kernel
theorem dX10_see_88 : decode cX10_see 88 = .ok (.aload_n 0, 1) := by decide +kernel
theorem dX10_see_89 : decode cX10_see 89 = .ok (.getfield 124, 3) := by decide +kernel
theorem dX10_see_92 : decode cX10_see 92 = .ok (.iload_n 1, 1) := by decide +kernel
theorem dX10_see_93 : decode cX10_see 93 = .ok (.iastore, 1) := by decide +kernel
theorem dX10_see_94 : decode cX10_see 94 = .ok (.aload_n 0, 1) := by decide +kernel
theorem dX10_see_95 : decode cX10_see 95 = .ok (.getfield 42, 3) := by decide +kernel
theorem dX10_see_98 : decode cX10_see 98 = .ok (.aload_n 0, 1) := by decide +kernel
theorem dX10_see_99 : decode cX10_see 99 = .ok (.getfield 124, 3) := by decide +kernel
theorem dX10_see_102 : decode cX10_see 102 = .ok (.iload_n 2, 1) := by decide +kernel
theorem dX10_see_103 : decode cX10_see 103 = .ok (.iastore, 1) := by decide +kernel
theorem dX10_see_104 : decode cX10_see 104 = .ok (.aload_n 0, 1) := by decide +kernel
theorem dX10_see_105 : decode cX10_see 105 = .ok (.getfield 45, 3) := by decide +kernel
theorem dX10_see_108 : decode cX10_see 108 = .ok (.aload_n 0, 1) := by decide +kernel
theorem dX10_see_109 : decode cX10_see 109 = .ok (.getfield 124, 3) := by decide +kernel
theorem dX10_see_112 : decode cX10_see 112 = .ok (.iload_n 3, 1) := by decide +kernel
theorem dX10_see_113 : decode cX10_see 113 = .ok (.iastore, 1) := by decide +kernel
theorem dX10_see_114 : decode cX10_see 114 = .ok (.aload_n 0, 1) := by decide +kernel
theorem dX10_see_115 : decode cX10_see 115 = .ok (.getfield 48, 3) := by decide +kernel
theorem dX10_see_118 : decode cX10_see 118 = .ok (.aload_n 0, 1) := by decide +kernel
theorem dX10_see_119 : decode cX10_see 119 = .ok (.getfield 124, 3) := by decide +kernel
theorem dX10_see_122 : decode cX10_see 122 = .ok (.iload 4, 2) := by decide +kernel
theorem dX10_see_124 : decode cX10_see 124 = .ok (.iastore, 1) := by decide +kernel
theorem dX10_see_125 : decode cX10_see 125 = .ok (.aload_n 0, 1) := by decide +kernel
theorem dX10_see_126 : decode cX10_see 126 = .ok (.dup, 1) := by decide +kernel
theorem dX10_see_127 : decode cX10_see 127 = .ok (.getfield 124, 3) := by decide +kernel
theorem dX10_see_130 : decode cX10_see 130 = .ok (.iconst 1, 1) := by decide +kernel
theorem dX10_see_131 : decode cX10_see 131 = .ok (.iadd, 1) := by decide +kernel
theorem dX10_see_132 : decode cX10_see 132 = .ok (.putfield 124, 3) := by decide +kernel
theorem dX10_see_135 : decode cX10_see 135 = .ok (.aload_n 0, 1) := by decide +kernel
theorem dX10_see_136 : decode cX10_see 136 = .ok (.getfield 124, 3) := by decide +kernel
theorem dX10_see_139 : decode cX10_see 139 = .ok (.ireturn, 1) := by decide +kernel
theorem dX10_nodsOf_0 : decode cX10_nodsOf 0 = .ok (.iconst 0, 1) := by decide +kernel
theorem dX10_nodsOf_1 : decode cX10_nodsOf 1 = .ok (.istore_n 2, 1) := by decide +kernel
theorem dX10_nodsOf_2 : decode cX10_nodsOf 2 = .ok (.iconst 0, 1) := by decide +kernel
theorem dX10_nodsOf_3 : decode cX10_nodsOf 3 = .ok (.istore_n 3, 1) := by decide +kernel
theorem dX10_nodsOf_4 : decode cX10_nodsOf 4 = .ok (.iload_n 3, 1) := by decide +kernel
theorem dX10_nodsOf_5 : decode cX10_nodsOf 5 = .ok (.aload_n 0, 1) := by decide +kernel
theorem dX10_nodsOf_6 : decode cX10_nodsOf 6 = .ok (.getfield 124, 3) := by decide +kernel
theorem dX10_nodsOf_9 : decode cX10_nodsOf 9 = .ok (.if_icmp .ge 66, 3) := by decide +kernel
theorem dX10_nodsOf_12 : decode cX10_nodsOf 12 = .ok (.aload_n 0, 1) := by decide +kernel
theorem dX10_nodsOf_13 : decode cX10_nodsOf 13 = .ok (.getfield 39, 3) := by decide +kernel
theorem dX10_nodsOf_16 : decode cX10_nodsOf 16 = .ok (.iload_n 3, 1) := by decide +kernel
theorem dX10_nodsOf_17 : decode cX10_nodsOf 17 = .ok (.iaload, 1) := by decide +kernel
theorem dX10_nodsOf_18 : decode cX10_nodsOf 18 = .ok (.iload_n 1, 1) := by decide +kernel
theorem dX10_nodsOf_19 : decode cX10_nodsOf 19 = .ok (.if_icmp .ne 50, 3) := by decide +kernel
theorem dX10_nodsOf_22 : decode cX10_nodsOf 22 = .ok (.aload_n 0, 1) := by decide +kernel
theorem dX10_nodsOf_23 : decode cX10_nodsOf 23 = .ok (.iload_n 1, 1) := by decide +kernel
theorem dX10_nodsOf_24 : decode cX10_nodsOf 24 = .ok (.aload_n 0, 1) := by decide +kernel
theorem dX10_nodsOf_25 : decode cX10_nodsOf 25 = .ok (.getfield 42, 3) := by decide +kernel
theorem dX10_nodsOf_28 : decode cX10_nodsOf 28 = .ok (.iload_n 3, 1) := by decide +kernel
theorem dX10_nodsOf_29 : decode cX10_nodsOf 29 = .ok (.iaload, 1) := by decide +kernel
theorem dX10_nodsOf_30 : decode cX10_nodsOf 30 = .ok (.invokevirtual 133, 3) := by decide +kernel
theorem dX10_nodsOf_33 : decode cX10_nodsOf 33 = .ok (.istore 4, 2) := by decide +kernel
theorem dX10_nodsOf_35 : decode cX10_nodsOf 35 = .ok (.iload_n 2, 1) := by decide +kernel
theorem dX10_nodsOf_36 : decode cX10_nodsOf 36 = .ok (.iload 4, 2) := by decide +kernel
theorem dX10_nodsOf_38 : decode cX10_nodsOf 38 = .ok (.ifCond .lt 24, 3) := by decide +kernel
theorem dX10_nodsOf_41 : decode cX10_nodsOf 41 = .ok (.aload_n 0, 1) := by decide +kernel
theorem dX10_nodsOf_42 : decode cX10_nodsOf 42 = .ok (.iload 4, 2) := by decide +kernel
theorem dX10_nodsOf_44 : decode cX10_nodsOf 44 = .ok (.aload_n 0, 1) := by decide +kernel
theorem dX10_nodsOf_45 : decode cX10_nodsOf 45 = .ok (.getfield 45, 3) := by decide +kernel
theorem dX10_nodsOf_48 : decode cX10_nodsOf 48 = .ok (.iload_n 3, 1) := by decide +kernel
theorem dX10_nodsOf_49 : decode cX10_nodsOf 49 = .ok (.iaload, 1) := by decide +kernel
theorem dX10_nodsOf_50 : decode cX10_nodsOf 50 = .ok (.invokevirtual 166, 3) := by decide +kernel
theorem dX10_nodsOf_53 : decode cX10_nodsOf 53 = .ok (.aload_n 0, 1) := by decide +kernel
theorem dX10_nodsOf_54 : decode cX10_nodsOf 54 = .ok (.getfield 48, 3) := by decide +kernel
theorem dX10_nodsOf_57 : decode cX10_nodsOf 57 = .ok (.iload_n 3, 1) := by decide +kernel
theorem dX10_nodsOf_58 : decode cX10_nodsOf 58 = .ok (.iaload, 1) := by decide +kernel
theorem dX10_nodsOf_59 : decode cX10_nodsOf 59 = .ok (.if_icmp .eq 7, 3) := by decide +kernel
theorem dX10_nodsOf_62 : decode cX10_nodsOf 62 = .ok (.iconst 1, 1) := by decide +kernel
theorem dX10_nodsOf_63 : decode cX10_nodsOf 63 = .ok (.goto 4, 3) := by decide +kernel
theorem dX10_nodsOf_66 : decode cX10_nodsOf 66 = .ok (.iconst 0, 1) := by decide +kernel
theorem dX10_nodsOf_67 : decode cX10_nodsOf 67 = .ok (.iadd, 1) := by decide +kernel
theorem dX10_nodsOf_68 : decode cX10_nodsOf 68 = .ok (.istore_n 2, 1) := by decide +kernel
theorem dX10_nodsOf_69 : decode cX10_nodsOf 69 = .ok (.iinc 3 1, 3) := by decide +kernel
theorem dX10_nodsOf_72 : decode cX10_nodsOf 72 = .ok (.goto (-68), 3) := by decide +kernel
theorem dX10_nodsOf_75 : decode cX10_nodsOf 75 = .ok (.iload_n 2, 1) := by decide +kernel
theorem dX10_nodsOf_76 : decode cX10_nodsOf 76 = .ok (.ireturn, 1) := by decide +kernel
theorem dX10_honest_0 : decode cX10_honest 0 = .ok (.iconst 0, 1) := by decide +kernel
theorem dX10_honest_1 : decode cX10_honest 1 = .ok (.istore_n 1, 1) := by decide +kernel
theorem dX10_honest_2 : decode cX10_honest 2 = .ok (.iconst 0, 1) := by decide +kernel
theorem dX10_honest_3 : decode cX10_honest 3 = .ok (.istore_n 2, 1) := by decide +kernel
theorem dX10_honest_4 : decode cX10_honest 4 = .ok (.iload_n 2, 1) := by decide +kernel
theorem dX10_honest_5 : decode cX10_honest 5 = .ok (.aload_n 0, 1) := by decide +kernel
theorem dX10_honest_6 : decode cX10_honest 6 = .ok (.getfield 63, 3) := by decide +kernel
theorem dX10_honest_9 : decode cX10_honest 9 = .ok (.if_icmp .ge 27, 3) := by decide +kernel
theorem dX10_honest_12 : decode cX10_honest 12 = .ok (.iload_n 1, 1) := by decide +kernel
theorem dX10_honest_13 : decode cX10_honest 13 = .ok (.aload_n 0, 1) := by decide +kernel
theorem dX10_honest_14 : decode cX10_honest 14 = .ok (.iload_n 2, 1) := by decide +kernel
theorem dX10_honest_15 : decode cX10_honest 15 = .ok (.invokevirtual 217, 3) := by decide +kernel
theorem dX10_honest_18 : decode cX10_honest 18 = .ok (.ifCond .ne 9, 3) := by decide +kernel
theorem dX10_honest_21 : decode cX10_honest 21 = .ok (.iconst 1, 1) := by decide +kernel
theorem dX10_honest_22 : decode cX10_honest 22 = .ok (.iload_n 2, 1) := by decide +kernel
theorem dX10_honest_23 : decode cX10_honest 23 = .ok (.ishl, 1) := by decide +kernel
theorem dX10_honest_24 : decode cX10_honest 24 = .ok (.goto 4, 3) := by decide +kernel
theorem dX10_honest_27 : decode cX10_honest 27 = .ok (.iconst 0, 1) := by decide +kernel
theorem dX10_honest_28 : decode cX10_honest 28 = .ok (.ior, 1) := by decide +kernel
theorem dX10_honest_29 : decode cX10_honest 29 = .ok (.istore_n 1, 1) := by decide +kernel
theorem dX10_honest_30 : decode cX10_honest 30 = .ok (.iinc 2 1, 3) := by decide +kernel
theorem dX10_honest_33 : decode cX10_honest 33 = .ok (.goto (-29), 3) := by decide +kernel
theorem dX10_honest_36 : decode cX10_honest 36 = .ok (.iload_n 1, 1) := by decide +kernel
theorem dX10_honest_37 : decode cX10_honest 37 = .ok (.ireturn, 1) := by decide +kernel
theorem dX10_nods_0 : decode cX10_nods 0 = .ok (.aload_n 0, 1) := by decide +kernel
theorem dX10_nods_1 : decode cX10_nods 1 = .ok (.iload_n 1, 1) := by decide +kernel
theorem dX10_nods_2 : decode cX10_nods 2 = .ok (.invokevirtual 70, 3) := by decide +kernel
theorem dX10_nods_5 : decode cX10_nods 5 = .ok (.ifCond .eq 11, 3) := by decide +kernel
theorem dX10_nods_8 : decode cX10_nods 8 = .ok (.aload_n 0, 1) := by decide +kernel
theorem dX10_nods_9 : decode cX10_nods 9 = .ok (.iload_n 1, 1) := by decide +kernel
theorem dX10_nods_10 : decode cX10_nods 10 = .ok (.invokevirtual 217, 3) := by decide +kernel
theorem dX10_nods_13 : decode cX10_nods 13 = .ok (.goto 5, 3) := by decide +kernel
theorem dX10_nods_16 : decode cX10_nods 16 = .ok (.ldc 152, 2) := by decide +kernel
theorem dX10_nods_18 : decode cX10_nods 18 = .ok (.ireturn, 1) := by decide +kernel
theorem dX10_spread_0 : decode cX10_spread 0 = .ok (.iconst 0, 1) := by decide +kernel
theorem dX10_spread_1 : decode cX10_spread 1 = .ok (.istore_n 3, 1) := by decide +kernel
theorem dX10_spread_2 : decode cX10_spread 2 = .ok (.bipush 99, 2) := by decide +kernel
theorem dX10_spread_4 : decode cX10_spread 4 = .ok (.istore 4, 2) := by decide +kernel
theorem dX10_spread_6 : decode cX10_spread 6 = .ok (.iconst 0, 1) := by decide +kernel
theorem dX10_spread_7 : decode cX10_spread 7 = .ok (.istore 5, 2) := by decide +kernel
theorem dX10_spread_9 : decode cX10_spread 9 = .ok (.iload 5, 2) := by decide +kernel
theorem dX10_spread_11 : decode cX10_spread 11 = .ok (.aload_n 0, 1) := by decide +kernel
theorem dX10_spread_12 : decode cX10_spread 12 = .ok (.getfield 63, 3) := by decide +kernel
theorem dX10_spread_15 : decode cX10_spread 15 = .ok (.if_icmp .ge 60, 3) := by decide +kernel
theorem dX10_spread_18 : decode cX10_spread 18 = .ok (.iload_n 2, 1) := by decide +kernel
theorem dX10_spread_19 : decode cX10_spread 19 = .ok (.iload 5, 2) := by decide +kernel
theorem dX10_spread_21 : decode cX10_spread 21 = .ok (.invokestatic 160, 3) := by decide +kernel
theorem dX10_spread_24 : decode cX10_spread 24 = .ok (.ifCond .eq 45, 3) := by decide +kernel
theorem dX10_spread_27 : decode cX10_spread 27 = .ok (.aload_n 0, 1) := by decide +kernel
theorem dX10_spread_28 : decode cX10_spread 28 = .ok (.getfield 13, 3) := by decide +kernel
theorem dX10_spread_31 : decode cX10_spread 31 = .ok (.iload 5, 2) := by decide +kernel
theorem dX10_spread_33 : decode cX10_spread 33 = .ok (.iaload, 1) := by decide +kernel
theorem dX10_spread_34 : decode cX10_spread 34 = .ok (.iload_n 1, 1) := by decide +kernel
theorem dX10_spread_35 : decode cX10_spread 35 = .ok (.invokestatic 163, 3) := by decide +kernel
theorem dX10_spread_38 : decode cX10_spread 38 = .ok (.istore 6, 2) := by decide +kernel
theorem dX10_spread_40 : decode cX10_spread 40 = .ok (.iload 6, 2) := by decide +kernel
theorem dX10_spread_42 : decode cX10_spread 42 = .ok (.iload_n 3, 1) := by decide +kernel
theorem dX10_spread_43 : decode cX10_spread 43 = .ok (.if_icmp .le 8, 3) := by decide +kernel
theorem dX10_spread_46 : decode cX10_spread 46 = .ok (.iload 6, 2) := by decide +kernel
theorem dX10_spread_48 : decode cX10_spread 48 = .ok (.goto 4, 3) := by decide +kernel
theorem dX10_spread_51 : decode cX10_spread 51 = .ok (.iload_n 3, 1) := by decide +kernel
theorem dX10_spread_52 : decode cX10_spread 52 = .ok (.istore_n 3, 1) := by decide +kernel
theorem dX10_spread_53 : decode cX10_spread 53 = .ok (.iload 6, 2) := by decide +kernel
theorem dX10_spread_55 : decode cX10_spread 55 = .ok (.iload 4, 2) := by decide +kernel
theorem dX10_spread_57 : decode cX10_spread 57 = .ok (.if_icmp .ge 8, 3) := by decide +kernel
theorem dX10_spread_60 : decode cX10_spread 60 = .ok (.iload 6, 2) := by decide +kernel
theorem dX10_spread_62 : decode cX10_spread 62 = .ok (.goto 5, 3) := by decide +kernel
theorem dX10_spread_65 : decode cX10_spread 65 = .ok (.iload 4, 2) := by decide +kernel
theorem dX10_spread_67 : decode cX10_spread 67 = .ok (.istore 4, 2) := by decide +kernel
theorem dX10_spread_69 : decode cX10_spread 69 = .ok (.iinc 5 1, 3) := by decide +kernel
theorem dX10_spread_72 : decode cX10_spread 72 = .ok (.goto (-63), 3) := by decide +kernel
theorem dX10_spread_75 : decode cX10_spread 75 = .ok (.iload_n 3, 1) := by decide +kernel
theorem dX10_spread_76 : decode cX10_spread 76 = .ok (.iload 4, 2) := by decide +kernel
theorem dX10_spread_78 : decode cX10_spread 78 = .ok (.isub, 1) := by decide +kernel
theorem dX10_spread_79 : decode cX10_spread 79 = .ok (.ireturn, 1) := by decide +kernel
theorem dX10_showNext_0 : decode cX10_showNext 0 = .ok (.aload_n 0, 1) := by decide +kernel
theorem dX10_showNext_1 : decode cX10_showNext 1 = .ok (.iload_n 1, 1) := by decide +kernel
theorem dX10_showNext_2 : decode cX10_showNext 2 = .ok (.iload_n 2, 1) := by decide +kernel
theorem dX10_showNext_3 : decode cX10_showNext 3 = .ok (.invokevirtual 156, 3) := by decide +kernel
theorem dX10_showNext_6 : decode cX10_showNext 6 = .ok (.ifCond .ne 6, 3) := by decide +kernel
theorem dX10_showNext_9 : decode cX10_showNext 9 = .ok (.ldc 152, 2) := by decide +kernel
theorem dX10_showNext_11 : decode cX10_showNext 11 = .ok (.ireturn, 1) := by decide +kernel
theorem dX10_showNext_12 : decode cX10_showNext 12 = .ok (.aload_n 0, 1) := by decide +kernel
theorem dX10_showNext_13 : decode cX10_showNext 13 = .ok (.iload_n 1, 1) := by decide +kernel
theorem dX10_showNext_14 : decode cX10_showNext 14 = .ok (.iload_n 2, 1) := by decide +kernel
theorem dX10_showNext_15 : decode cX10_showNext 15 = .ok (.invokevirtual 133, 3) := by decide +kernel
theorem dX10_showNext_18 : decode cX10_showNext 18 = .ok (.ifCond .ge 6, 3) := by decide +kernel
theorem dX10_showNext_21 : decode cX10_showNext 21 = .ok (.ldc 171, 2) := by decide +kernel
theorem dX10_showNext_23 : decode cX10_showNext 23 = .ok (.ireturn, 1) := by decide +kernel
theorem dX10_showNext_24 : decode cX10_showNext 24 = .ok (.iconst (-1), 1) := by decide +kernel
theorem dX10_showNext_25 : decode cX10_showNext 25 = .ok (.istore_n 3, 1) := by decide +kernel
theorem dX10_showNext_26 : decode cX10_showNext 26 = .ok (.iconst (-1), 1) := by decide +kernel
theorem dX10_showNext_27 : decode cX10_showNext 27 = .ok (.istore 4, 2) := by decide +kernel
theorem dX10_showNext_29 : decode cX10_showNext 29 = .ok (.iconst 0, 1) := by decide +kernel
theorem dX10_showNext_30 : decode cX10_showNext 30 = .ok (.istore 5, 2) := by decide +kernel
theorem dX10_showNext_32 : decode cX10_showNext 32 = .ok (.iload 5, 2) := by decide +kernel
theorem dX10_showNext_34 : decode cX10_showNext 34 = .ok (.iconst 1, 1) := by decide +kernel
theorem dX10_showNext_35 : decode cX10_showNext 35 = .ok (.aload_n 0, 1) := by decide +kernel
theorem dX10_showNext_36 : decode cX10_showNext 36 = .ok (.getfield 63, 3) := by decide +kernel
theorem dX10_showNext_39 : decode cX10_showNext 39 = .ok (.ishl, 1) := by decide +kernel
theorem dX10_showNext_40 : decode cX10_showNext 40 = .ok (.if_icmp .ge 71, 3) := by decide +kernel
theorem dX10_showNext_43 : decode cX10_showNext 43 = .ok (.iload 5, 2) := by decide +kernel
theorem dX10_showNext_45 : decode cX10_showNext 45 = .ok (.invokestatic 140, 3) := by decide +kernel
theorem dX10_showNext_48 : decode cX10_showNext 48 = .ok (.iconst 3, 1) := by decide +kernel
theorem dX10_showNext_49 : decode cX10_showNext 49 = .ok (.if_icmp .ne 56, 3) := by decide +kernel
theorem dX10_showNext_52 : decode cX10_showNext 52 = .ok (.iload 5, 2) := by decide +kernel
theorem dX10_showNext_54 : decode cX10_showNext 54 = .ok (.iload_n 1, 1) := by decide +kernel
theorem dX10_showNext_55 : decode cX10_showNext 55 = .ok (.invokestatic 160, 3) := by decide +kernel
theorem dX10_showNext_58 : decode cX10_showNext 58 = .ok (.ifCond .ne 47, 3) := by decide +kernel
theorem dX10_showNext_61 : decode cX10_showNext 61 = .ok (.aload_n 0, 1) := by decide +kernel
theorem dX10_showNext_62 : decode cX10_showNext 62 = .ok (.aload_n 0, 1) := by decide +kernel
theorem dX10_showNext_63 : decode cX10_showNext 63 = .ok (.iload_n 1, 1) := by decide +kernel
theorem dX10_showNext_64 : decode cX10_showNext 64 = .ok (.iload_n 2, 1) := by decide +kernel
theorem dX10_showNext_65 : decode cX10_showNext 65 = .ok (.invokevirtual 133, 3) := by decide +kernel
theorem dX10_showNext_68 : decode cX10_showNext 68 = .ok (.iload 5, 2) := by decide +kernel
theorem dX10_showNext_70 : decode cX10_showNext 70 = .ok (.invokevirtual 220, 3) := by decide +kernel
theorem dX10_showNext_73 : decode cX10_showNext 73 = .ok (.istore 6, 2) := by decide +kernel
theorem dX10_showNext_75 : decode cX10_showNext 75 = .ok (.iload 6, 2) := by decide +kernel
theorem dX10_showNext_77 : decode cX10_showNext 77 = .ok (.iload 4, 2) := by decide +kernel
theorem dX10_showNext_79 : decode cX10_showNext 79 = .ok (.if_icmp .le 8, 3) := by decide +kernel
theorem dX10_showNext_82 : decode cX10_showNext 82 = .ok (.iload 5, 2) := by decide +kernel
theorem dX10_showNext_84 : decode cX10_showNext 84 = .ok (.goto 4, 3) := by decide +kernel
theorem dX10_showNext_87 : decode cX10_showNext 87 = .ok (.iload_n 3, 1) := by decide +kernel
theorem dX10_showNext_88 : decode cX10_showNext 88 = .ok (.istore_n 3, 1) := by decide +kernel
theorem dX10_showNext_89 : decode cX10_showNext 89 = .ok (.iload 6, 2) := by decide +kernel
theorem dX10_showNext_91 : decode cX10_showNext 91 = .ok (.iload 4, 2) := by decide +kernel
theorem dX10_showNext_93 : decode cX10_showNext 93 = .ok (.if_icmp .le 8, 3) := by decide +kernel
theorem dX10_showNext_96 : decode cX10_showNext 96 = .ok (.iload 6, 2) := by decide +kernel
theorem dX10_showNext_98 : decode cX10_showNext 98 = .ok (.goto 5, 3) := by decide +kernel
theorem dX10_showNext_101 : decode cX10_showNext 101 = .ok (.iload 4, 2) := by decide +kernel
theorem dX10_showNext_103 : decode cX10_showNext 103 = .ok (.istore 4, 2) := by decide +kernel
theorem dX10_showNext_105 : decode cX10_showNext 105 = .ok (.iinc 5 1, 3) := by decide +kernel
theorem dX10_showNext_108 : decode cX10_showNext 108 = .ok (.goto (-76), 3) := by decide +kernel
theorem dX10_showNext_111 : decode cX10_showNext 111 = .ok (.iload_n 3, 1) := by decide +kernel
theorem dX10_showNext_112 : decode cX10_showNext 112 = .ok (.ireturn, 1) := by decide +kernel
theorem dX10_write_0 : decode cX10_write 0 = .ok (.aload_n 0, 1) := by decide +kernel
theorem dX10_write_1 : decode cX10_write 1 = .ok (.iload_n 1, 1) := by decide +kernel
theorem dX10_write_2 : decode cX10_write 2 = .ok (.invokevirtual 70, 3) := by decide +kernel
theorem dX10_write_5 : decode cX10_write 5 = .ok (.ifCond .eq 11, 3) := by decide +kernel
theorem dX10_write_8 : decode cX10_write 8 = .ok (.aload_n 0, 1) := by decide +kernel
theorem dX10_write_9 : decode cX10_write 9 = .ok (.iload_n 2, 1) := by decide +kernel
theorem dX10_write_10 : decode cX10_write 10 = .ok (.invokevirtual 70, 3) := by decide +kernel
theorem dX10_write_13 : decode cX10_write 13 = .ok (.ifCond .ne 6, 3) := by decide +kernel
theorem dX10_write_16 : decode cX10_write 16 = .ok (.ldc 152, 2) := by decide +kernel
theorem dX10_write_18 : decode cX10_write 18 = .ok (.ireturn, 1) := by decide +kernel
theorem dX10_write_19 : decode cX10_write 19 = .ok (.aload_n 0, 1) := by decide +kernel
theorem dX10_write_20 : decode cX10_write 20 = .ok (.getfield 127, 3) := by decide +kernel
theorem dX10_write_23 : decode cX10_write 23 = .ok (.bipush 15, 2) := by decide +kernel
theorem dX10_write_25 : decode cX10_write 25 = .ok (.if_icmp .ne 6, 3) := by decide +kernel
theorem dX10_write_28 : decode cX10_write 28 = .ok (.ldc 80, 2) := by decide +kernel
theorem dX10_write_30 : decode cX10_write 30 = .ok (.ireturn, 1) := by decide +kernel
theorem dX10_write_31 : decode cX10_write 31 = .ok (.aload_n 0, 1) := by decide +kernel
theorem dX10_write_32 : decode cX10_write 32 = .ok (.getfield 51, 3) := by decide +kernel
theorem dX10_write_35 : decode cX10_write 35 = .ok (.aload_n 0, 1) := by decide +kernel
theorem dX10_write_36 : decode cX10_write 36 = .ok (.getfield 127, 3) := by decide +kernel
theorem dX10_write_39 : decode cX10_write 39 = .ok (.iload_n 1, 1) := by decide +kernel
theorem dX10_write_40 : decode cX10_write 40 = .ok (.iastore, 1) := by decide +kernel
theorem dX10_write_41 : decode cX10_write 41 = .ok (.aload_n 0, 1) := by decide +kernel
theorem dX10_write_42 : decode cX10_write 42 = .ok (.getfield 54, 3) := by decide +kernel
theorem dX10_write_45 : decode cX10_write 45 = .ok (.aload_n 0, 1) := by decide +kernel
theorem dX10_write_46 : decode cX10_write 46 = .ok (.getfield 127, 3) := by decide +kernel
theorem dX10_write_49 : decode cX10_write 49 = .ok (.iload_n 2, 1) := by decide +kernel
theorem dX10_write_50 : decode cX10_write 50 = .ok (.iastore, 1) := by decide +kernel
theorem dX10_write_51 : decode cX10_write 51 = .ok (.aload_n 0, 1) := by decide +kernel
theorem dX10_write_52 : decode cX10_write 52 = .ok (.dup, 1) := by decide +kernel
theorem dX10_write_53 : decode cX10_write 53 = .ok (.getfield 127, 3) := by decide +kernel
theorem dX10_write_56 : decode cX10_write 56 = .ok (.iconst 1, 1) := by decide +kernel
theorem dX10_write_57 : decode cX10_write 57 = .ok (.iadd, 1) := by decide +kernel
theorem dX10_write_58 : decode cX10_write 58 = .ok (.putfield 127, 3) := by decide +kernel
theorem dX10_write_61 : decode cX10_write 61 = .ok (.aload_n 0, 1) := by decide +kernel
theorem dX10_write_62 : decode cX10_write 62 = .ok (.getfield 127, 3) := by decide +kernel
theorem dX10_write_65 : decode cX10_write 65 = .ok (.ireturn, 1) := by decide +kernel
theorem dX10_tear_0 : decode cX10_tear 0 = .ok (.aload_n 0, 1) := by decide +kernel
theorem dX10_tear_1 : decode cX10_tear 1 = .ok (.getfield 124, 3) := by decide +kernel
theorem dX10_tear_4 : decode cX10_tear 4 = .ok (.aload_n 0, 1) := by decide +kernel
theorem dX10_tear_5 : decode cX10_tear 5 = .ok (.getfield 127, 3) := by decide +kernel
theorem dX10_tear_8 : decode cX10_tear 8 = .ok (.iadd, 1) := by decide +kernel
theorem dX10_tear_9 : decode cX10_tear 9 = .ok (.istore_n 1, 1) := by decide +kernel
theorem dX10_tear_10 : decode cX10_tear 10 = .ok (.aload_n 0, 1) := by decide +kernel
theorem dX10_tear_11 : decode cX10_tear 11 = .ok (.iconst 0, 1) := by decide +kernel
theorem dX10_tear_12 : decode cX10_tear 12 = .ok (.putfield 124, 3) := by decide +kernel
theorem dX10_tear_15 : decode cX10_tear 15 = .ok (.aload_n 0, 1) := by decide +kernel
theorem dX10_tear_16 : decode cX10_tear 16 = .ok (.iconst 0, 1) := by decide +kernel
theorem dX10_tear_17 : decode cX10_tear 17 = .ok (.putfield 127, 3) := by decide +kernel
theorem dX10_tear_20 : decode cX10_tear 20 = .ok (.iload_n 1, 1) := by decide +kernel
theorem dX10_tear_21 : decode cX10_tear 21 = .ok (.ireturn, 1) := by decide +kernel
theorem dX10_judge_0 : decode cX10_judge 0 = .ok (.iconst 0, 1) := by decide +kernel
theorem dX10_judge_1 : decode cX10_judge 1 = .ok (.istore_n 1, 1) := by decide +kernel
theorem dX10_judge_2 : decode cX10_judge 2 = .ok (.iload_n 1, 1) := by decide +kernel
theorem dX10_judge_3 : decode cX10_judge 3 = .ok (.aload_n 0, 1) := by decide +kernel
theorem dX10_judge_4 : decode cX10_judge 4 = .ok (.getfield 127, 3) := by decide +kernel
theorem dX10_judge_7 : decode cX10_judge 7 = .ok (.if_icmp .ge 34, 3) := by decide +kernel
theorem dX10_judge_10 : decode cX10_judge 10 = .ok (.aload_n 0, 1) := by decide +kernel
theorem dX10_judge_11 : decode cX10_judge 11 = .ok (.getfield 13, 3) := by decide +kernel
theorem dX10_judge_14 : decode cX10_judge 14 = .ok (.bipush 8, 2) := by decide +kernel
theorem dX10_judge_16 : decode cX10_judge 16 = .ok (.aload_n 0, 1) := by decide +kernel
theorem dX10_judge_17 : decode cX10_judge 17 = .ok (.getfield 51, 3) := by decide +kernel
theorem dX10_judge_20 : decode cX10_judge 20 = .ok (.iload_n 1, 1) := by decide +kernel
theorem dX10_judge_21 : decode cX10_judge 21 = .ok (.iaload, 1) := by decide +kernel
theorem dX10_judge_22 : decode cX10_judge 22 = .ok (.iadd, 1) := by decide +kernel
theorem dX10_judge_23 : decode cX10_judge 23 = .ok (.iaload, 1) := by decide +kernel
theorem dX10_judge_24 : decode cX10_judge 24 = .ok (.aload_n 0, 1) := by decide +kernel
theorem dX10_judge_25 : decode cX10_judge 25 = .ok (.getfield 54, 3) := by decide +kernel
theorem dX10_judge_28 : decode cX10_judge 28 = .ok (.iload_n 1, 1) := by decide +kernel
theorem dX10_judge_29 : decode cX10_judge 29 = .ok (.iaload, 1) := by decide +kernel
theorem dX10_judge_30 : decode cX10_judge 30 = .ok (.if_icmp .eq 5, 3) := by decide +kernel
theorem dX10_judge_33 : decode cX10_judge 33 = .ok (.iload_n 1, 1) := by decide +kernel
theorem dX10_judge_34 : decode cX10_judge 34 = .ok (.ireturn, 1) := by decide +kernel
theorem dX10_judge_35 : decode cX10_judge 35 = .ok (.iinc 1 1, 3) := by decide +kernel
theorem dX10_judge_38 : decode cX10_judge 38 = .ok (.goto (-36), 3) := by decide +kernel
theorem dX10_judge_41 : decode cX10_judge 41 = .ok (.iconst (-1), 1) := by decide +kernel
theorem dX10_judge_42 : decode cX10_judge 42 = .ok (.ireturn, 1) := by decide +kernel
theorem dX10_seed_0 : decode cX10_seed 0 = .ok (.iload_n 1, 1) := by decide +kernel
theorem dX10_seed_1 : decode cX10_seed 1 = .ok (.ifCond .ge 6, 3) := by decide +kernel
theorem dX10_seed_4 : decode cX10_seed 4 = .ok (.ldc 76, 2) := by decide +kernel
theorem dX10_seed_6 : decode cX10_seed 6 = .ok (.ireturn, 1) := by decide +kernel
theorem dX10_seed_7 : decode cX10_seed 7 = .ok (.aload_n 0, 1) := by decide +kernel
theorem dX10_seed_8 : decode cX10_seed 8 = .ok (.getfield 193, 3) := by decide +kernel
theorem dX10_seed_11 : decode cX10_seed 11 = .ok (.istore_n 2, 1) := by decide +kernel
theorem dX10_seed_12 : decode cX10_seed 12 = .ok (.aload_n 0, 1) := by decide +kernel
theorem dX10_seed_13 : decode cX10_seed 13 = .ok (.iload_n 1, 1) := by decide +kernel
theorem dX10_seed_14 : decode cX10_seed 14 = .ok (.putfield 193, 3) := by decide +kernel
theorem dX10_seed_17 : decode cX10_seed 17 = .ok (.iload_n 2, 1) := by decide +kernel
theorem dX10_seed_18 : decode cX10_seed 18 = .ok (.ireturn, 1) := by decide +kernel
theorem dX10_keep_0 : decode cX10_keep 0 = .ok (.iload_n 1, 1) := by decide +kernel
theorem dX10_keep_1 : decode cX10_keep 1 = .ok (.i2l, 1) := by decide +kernel
theorem dX10_keep_2 : decode cX10_keep 2 = .ok (.lconst 0, 1) := by decide +kernel
theorem dX10_keep_3 : decode cX10_keep 3 = .ok (.lconst 1, 1) := by decide +kernel
theorem dX10_keep_4 : decode cX10_keep 4 = .ok (.invokestatic 66, 3) := by decide +kernel
theorem dX10_keep_7 : decode cX10_keep 7 = .ok (.ifCond .ne 6, 3) := by decide +kernel
theorem dX10_keep_10 : decode cX10_keep 10 = .ok (.ldc 152, 2) := by decide +kernel
theorem dX10_keep_12 : decode cX10_keep 12 = .ok (.ireturn, 1) := by decide +kernel
theorem dX10_keep_13 : decode cX10_keep 13 = .ok (.iconst 0, 1) := by decide +kernel
theorem dX10_keep_14 : decode cX10_keep 14 = .ok (.istore_n 2, 1) := by decide +kernel
theorem dX10_keep_15 : decode cX10_keep 15 = .ok (.iload_n 2, 1) := by decide +kernel
theorem dX10_keep_16 : decode cX10_keep 16 = .ok (.bipush 81, 2) := by decide +kernel
theorem dX10_keep_18 : decode cX10_keep 18 = .ok (.if_icmp .ge 26, 3) := by decide +kernel
theorem dX10_keep_21 : decode cX10_keep 21 = .ok (.aload_n 0, 1) := by decide +kernel
theorem dX10_keep_22 : decode cX10_keep 22 = .ok (.getfield 57, 3) := by decide +kernel
theorem dX10_keep_25 : decode cX10_keep 25 = .ok (.bipush 82, 2) := by decide +kernel
theorem dX10_keep_27 : decode cX10_keep 27 = .ok (.iload_n 1, 1) := by decide +kernel
theorem dX10_keep_28 : decode cX10_keep 28 = .ok (.imul, 1) := by decide +kernel
theorem dX10_keep_29 : decode cX10_keep 29 = .ok (.iload_n 2, 1) := by decide +kernel
theorem dX10_keep_30 : decode cX10_keep 30 = .ok (.iadd, 1) := by decide +kernel
theorem dX10_keep_31 : decode cX10_keep 31 = .ok (.aload_n 0, 1) := by decide +kernel
theorem dX10_keep_32 : decode cX10_keep 32 = .ok (.getfield 13, 3) := by decide +kernel
theorem dX10_keep_35 : decode cX10_keep 35 = .ok (.iload_n 2, 1) := by decide +kernel
theorem dX10_keep_36 : decode cX10_keep 36 = .ok (.iaload, 1) := by decide +kernel
theorem dX10_keep_37 : decode cX10_keep 37 = .ok (.iastore, 1) := by decide +kernel
theorem dX10_keep_38 : decode cX10_keep 38 = .ok (.iinc 2 1, 3) := by decide +kernel
theorem dX10_keep_41 : decode cX10_keep 41 = .ok (.goto (-26), 3) := by decide +kernel
theorem dX10_keep_44 : decode cX10_keep 44 = .ok (.aload_n 0, 1) := by decide +kernel
theorem dX10_keep_45 : decode cX10_keep 45 = .ok (.getfield 57, 3) := by decide +kernel
theorem dX10_keep_48 : decode cX10_keep 48 = .ok (.bipush 82, 2) := by decide +kernel
theorem dX10_keep_50 : decode cX10_keep 50 = .ok (.iload_n 1, 1) := by decide +kernel
theorem dX10_keep_51 : decode cX10_keep 51 = .ok (.imul, 1) := by decide +kernel
theorem dX10_keep_52 : decode cX10_keep 52 = .ok (.bipush 81, 2) := by decide +kernel
theorem dX10_keep_54 : decode cX10_keep 54 = .ok (.iadd, 1) := by decide +kernel
theorem dX10_keep_55 : decode cX10_keep 55 = .ok (.aload_n 0, 1) := by decide +kernel
theorem dX10_keep_56 : decode cX10_keep 56 = .ok (.getfield 193, 3) := by decide +kernel
theorem dX10_keep_59 : decode cX10_keep 59 = .ok (.iastore, 1) := by decide +kernel
theorem dX10_keep_60 : decode cX10_keep 60 = .ok (.aload_n 0, 1) := by decide +kernel
theorem dX10_keep_61 : decode cX10_keep 61 = .ok (.getfield 60, 3) := by decide +kernel
theorem dX10_keep_64 : decode cX10_keep 64 = .ok (.iload_n 1, 1) := by decide +kernel
theorem dX10_keep_65 : decode cX10_keep 65 = .ok (.iconst 1, 1) := by decide +kernel
theorem dX10_keep_66 : decode cX10_keep 66 = .ok (.bastore, 1) := by decide +kernel
theorem dX10_keep_67 : decode cX10_keep 67 = .ok (.aload_n 0, 1) := by decide +kernel
theorem dX10_keep_68 : decode cX10_keep 68 = .ok (.iconst 0, 1) := by decide +kernel
theorem dX10_keep_69 : decode cX10_keep 69 = .ok (.putfield 130, 3) := by decide +kernel
theorem dX10_keep_72 : decode cX10_keep 72 = .ok (.iconst 1, 1) := by decide +kernel
theorem dX10_keep_73 : decode cX10_keep 73 = .ok (.ireturn, 1) := by decide +kernel
theorem dX10_goBack_0 : decode cX10_goBack 0 = .ok (.iload_n 1, 1) := by decide +kernel
theorem dX10_goBack_1 : decode cX10_goBack 1 = .ok (.i2l, 1) := by decide +kernel
theorem dX10_goBack_2 : decode cX10_goBack 2 = .ok (.lconst 0, 1) := by decide +kernel
theorem dX10_goBack_3 : decode cX10_goBack 3 = .ok (.lconst 1, 1) := by decide +kernel
theorem dX10_goBack_4 : decode cX10_goBack 4 = .ok (.invokestatic 66, 3) := by decide +kernel
theorem dX10_goBack_7 : decode cX10_goBack 7 = .ok (.ifCond .ne 6, 3) := by decide +kernel
theorem dX10_goBack_10 : decode cX10_goBack 10 = .ok (.ldc 152, 2) := by decide +kernel
theorem dX10_goBack_12 : decode cX10_goBack 12 = .ok (.ireturn, 1) := by decide +kernel
theorem dX10_goBack_13 : decode cX10_goBack 13 = .ok (.aload_n 0, 1) := by decide +kernel
theorem dX10_goBack_14 : decode cX10_goBack 14 = .ok (.getfield 60, 3) := by decide +kernel
theorem dX10_goBack_17 : decode cX10_goBack 17 = .ok (.iload_n 1, 1) := by decide +kernel
theorem dX10_goBack_18 : decode cX10_goBack 18 = .ok (.baload, 1) := by decide +kernel
theorem dX10_goBack_19 : decode cX10_goBack 19 = .ok (.ifCond .ne 6, 3) := by decide +kernel
theorem dX10_goBack_22 : decode cX10_goBack 22 = .ok (.ldc 171, 2) := by decide +kernel
theorem dX10_goBack_24 : decode cX10_goBack 24 = .ok (.ireturn, 1) := by decide +kernel
theorem dX10_goBack_25 : decode cX10_goBack 25 = .ok (.iconst 0, 1) := by decide +kernel
theorem dX10_goBack_26 : decode cX10_goBack 26 = .ok (.istore_n 2, 1) := by decide +kernel
theorem dX10_goBack_27 : decode cX10_goBack 27 = .ok (.iload_n 2, 1) := by decide +kernel
theorem dX10_goBack_28 : decode cX10_goBack 28 = .ok (.bipush 81, 2) := by decide +kernel
theorem dX10_goBack_30 : decode cX10_goBack 30 = .ok (.if_icmp .ge 26, 3) := by decide +kernel
theorem dX10_goBack_33 : decode cX10_goBack 33 = .ok (.aload_n 0, 1) := by decide +kernel
theorem dX10_goBack_34 : decode cX10_goBack 34 = .ok (.getfield 13, 3) := by decide +kernel
theorem dX10_goBack_37 : decode cX10_goBack 37 = .ok (.iload_n 2, 1) := by decide +kernel
theorem dX10_goBack_38 : decode cX10_goBack 38 = .ok (.aload_n 0, 1) := by decide +kernel
theorem dX10_goBack_39 : decode cX10_goBack 39 = .ok (.getfield 57, 3) := by decide +kernel
theorem dX10_goBack_42 : decode cX10_goBack 42 = .ok (.bipush 82, 2) := by decide +kernel
theorem dX10_goBack_44 : decode cX10_goBack 44 = .ok (.iload_n 1, 1) := by decide +kernel
theorem dX10_goBack_45 : decode cX10_goBack 45 = .ok (.imul, 1) := by decide +kernel
theorem dX10_goBack_46 : decode cX10_goBack 46 = .ok (.iload_n 2, 1) := by decide +kernel
theorem dX10_goBack_47 : decode cX10_goBack 47 = .ok (.iadd, 1) := by decide +kernel
theorem dX10_goBack_48 : decode cX10_goBack 48 = .ok (.iaload, 1) := by decide +kernel
theorem dX10_goBack_49 : decode cX10_goBack 49 = .ok (.iastore, 1) := by decide +kernel
theorem dX10_goBack_50 : decode cX10_goBack 50 = .ok (.iinc 2 1, 3) := by decide +kernel
theorem dX10_goBack_53 : decode cX10_goBack 53 = .ok (.goto (-26), 3) := by decide +kernel
theorem dX10_goBack_56 : decode cX10_goBack 56 = .ok (.aload_n 0, 1) := by decide +kernel
theorem dX10_goBack_57 : decode cX10_goBack 57 = .ok (.aload_n 0, 1) := by decide +kernel
theorem dX10_goBack_58 : decode cX10_goBack 58 = .ok (.getfield 57, 3) := by decide +kernel
theorem dX10_goBack_61 : decode cX10_goBack 61 = .ok (.bipush 82, 2) := by decide +kernel
theorem dX10_goBack_63 : decode cX10_goBack 63 = .ok (.iload_n 1, 1) := by decide +kernel
theorem dX10_goBack_64 : decode cX10_goBack 64 = .ok (.imul, 1) := by decide +kernel
theorem dX10_goBack_65 : decode cX10_goBack 65 = .ok (.bipush 81, 2) := by decide +kernel
theorem dX10_goBack_67 : decode cX10_goBack 67 = .ok (.iadd, 1) := by decide +kernel
theorem dX10_goBack_68 : decode cX10_goBack 68 = .ok (.iaload, 1) := by decide +kernel
theorem dX10_goBack_69 : decode cX10_goBack 69 = .ok (.putfield 193, 3) := by decide +kernel
theorem dX10_goBack_72 : decode cX10_goBack 72 = .ok (.aload_n 0, 1) := by decide +kernel
theorem dX10_goBack_73 : decode cX10_goBack 73 = .ok (.iconst 0, 1) := by decide +kernel
theorem dX10_goBack_74 : decode cX10_goBack 74 = .ok (.putfield 130, 3) := by decide +kernel
theorem dX10_goBack_77 : decode cX10_goBack 77 = .ok (.iconst 1, 1) := by decide +kernel
theorem dX10_goBack_78 : decode cX10_goBack 78 = .ok (.ireturn, 1) := by decide +kernel
end
section
theorem dL_law_0 : decode cL_law 0 = .ok (.new 7, 3) := by decide +kernel
theorem dL_law_3 : decode cL_law 3 = .ok (.dup, 1) := by decide +kernel
theorem dL_law_4 : decode cL_law 4 = .ok (.invokespecial 9, 3) := by decide +kernel
theorem dL_law_7 : decode cL_law 7 = .ok (.astore_n 1, 1) := by decide +kernel
theorem dL_law_8 : decode cL_law 8 = .ok (.new 10, 3) := by decide +kernel
theorem dL_law_11 : decode cL_law 11 = .ok (.dup, 1) := by decide +kernel
theorem dL_law_12 : decode cL_law 12 = .ok (.invokespecial 12, 3) := by decide +kernel
theorem dL_law_15 : decode cL_law 15 = .ok (.astore_n 2, 1) := by decide +kernel
theorem dL_law_16 : decode cL_law 16 = .ok (.iconst 0, 1) := by decide +kernel
theorem dL_law_17 : decode cL_law 17 = .ok (.istore_n 3, 1) := by decide +kernel
theorem dL_law_18 : decode cL_law 18 = .ok (.iload_n 3, 1) := by decide +kernel
theorem dL_law_19 : decode cL_law 19 = .ok (.aload_n 0, 1) := by decide +kernel
theorem dL_law_20 : decode cL_law 20 = .ok (.arraylength, 1) := by decide +kernel
theorem dL_law_21 : decode cL_law 21 = .ok (.bipush 6, 2) := by decide +kernel
theorem dL_law_23 : decode cL_law 23 = .ok (.isub, 1) := by decide +kernel
theorem dL_law_24 : decode cL_law 24 = .ok (.if_icmp .gt 1188, 3) := by decide +kernel
theorem dL_law_27 : decode cL_law 27 = .ok (.aload_n 0, 1) := by decide +kernel
theorem dL_law_28 : decode cL_law 28 = .ok (.iload_n 3, 1) := by decide +kernel
theorem dL_law_29 : decode cL_law 29 = .ok (.iaload, 1) := by decide +kernel
theorem dL_law_30 : decode cL_law 30 = .ok (.bipush 63, 2) := by decide +kernel
theorem dL_law_32 : decode cL_law 32 = .ok (.iand, 1) := by decide +kernel
theorem dL_law_33 : decode cL_law 33 = .ok (.tableswitch 1173 0 33 #[151, 174, 187, 200, 223, 256, 289, 312, 345, 378, 421, 454, 477, 490, 533, 576, 629, 662, 685, 708, 761, 814, 877, 900, 923, 976, 989, 1012, 1045, 1078, 1091, 1104, 1127, 1150], 151) := by decide +kernel
theorem dL_law_184 : decode cL_law 184 = .ok (.aload_n 1, 1) := by decide +kernel
theorem dL_law_185 : decode cL_law 185 = .ok (.aload_n 0, 1) := by decide +kernel
theorem dL_law_186 : decode cL_law 186 = .ok (.iload_n 3, 1) := by decide +kernel
theorem dL_law_187 : decode cL_law 187 = .ok (.iconst 1, 1) := by decide +kernel
theorem dL_law_188 : decode cL_law 188 = .ok (.iadd, 1) := by decide +kernel
theorem dL_law_189 : decode cL_law 189 = .ok (.iaload, 1) := by decide +kernel
theorem dL_law_190 : decode cL_law 190 = .ok (.invokevirtual 13, 3) := by decide +kernel
theorem dL_law_193 : decode cL_law 193 = .ok (.aload_n 2, 1) := by decide +kernel
theorem dL_law_194 : decode cL_law 194 = .ok (.aload_n 0, 1) := by decide +kernel
theorem dL_law_195 : decode cL_law 195 = .ok (.iload_n 3, 1) := by decide +kernel
theorem dL_law_196 : decode cL_law 196 = .ok (.iconst 1, 1) := by decide +kernel
theorem dL_law_197 : decode cL_law 197 = .ok (.iadd, 1) := by decide +kernel
theorem dL_law_198 : decode cL_law 198 = .ok (.iaload, 1) := by decide +kernel
theorem dL_law_199 : decode cL_law 199 = .ok (.invokevirtual 17, 3) := by decide +kernel
theorem dL_law_202 : decode cL_law 202 = .ok (.if_icmp .eq 1004, 3) := by decide +kernel
theorem dL_law_205 : decode cL_law 205 = .ok (.iconst 0, 1) := by decide +kernel
theorem dL_law_206 : decode cL_law 206 = .ok (.ireturn, 1) := by decide +kernel
theorem dL_law_207 : decode cL_law 207 = .ok (.aload_n 1, 1) := by decide +kernel
theorem dL_law_208 : decode cL_law 208 = .ok (.invokevirtual 18, 3) := by decide +kernel
theorem dL_law_211 : decode cL_law 211 = .ok (.aload_n 2, 1) := by decide +kernel
theorem dL_law_212 : decode cL_law 212 = .ok (.invokevirtual 22, 3) := by decide +kernel
theorem dL_law_215 : decode cL_law 215 = .ok (.if_icmp .eq 991, 3) := by decide +kernel
theorem dL_law_218 : decode cL_law 218 = .ok (.iconst 0, 1) := by decide +kernel
theorem dL_law_219 : decode cL_law 219 = .ok (.ireturn, 1) := by decide +kernel
theorem dL_law_220 : decode cL_law 220 = .ok (.aload_n 1, 1) := by decide +kernel
theorem dL_law_221 : decode cL_law 221 = .ok (.invokevirtual 23, 3) := by decide +kernel
theorem dL_law_224 : decode cL_law 224 = .ok (.aload_n 2, 1) := by decide +kernel
theorem dL_law_225 : decode cL_law 225 = .ok (.invokevirtual 26, 3) := by decide +kernel
theorem dL_law_228 : decode cL_law 228 = .ok (.if_icmp .eq 978, 3) := by decide +kernel
theorem dL_law_231 : decode cL_law 231 = .ok (.iconst 0, 1) := by decide +kernel
theorem dL_law_232 : decode cL_law 232 = .ok (.ireturn, 1) := by decide +kernel
theorem dL_law_233 : decode cL_law 233 = .ok (.aload_n 1, 1) := by decide +kernel
theorem dL_law_234 : decode cL_law 234 = .ok (.aload_n 0, 1) := by decide +kernel
theorem dL_law_235 : decode cL_law 235 = .ok (.iload_n 3, 1) := by decide +kernel
theorem dL_law_236 : decode cL_law 236 = .ok (.iconst 1, 1) := by decide +kernel
theorem dL_law_237 : decode cL_law 237 = .ok (.iadd, 1) := by decide +kernel
theorem dL_law_238 : decode cL_law 238 = .ok (.iaload, 1) := by decide +kernel
theorem dL_law_239 : decode cL_law 239 = .ok (.invokevirtual 27, 3) := by decide +kernel
theorem dL_law_242 : decode cL_law 242 = .ok (.aload_n 2, 1) := by decide +kernel
theorem dL_law_243 : decode cL_law 243 = .ok (.aload_n 0, 1) := by decide +kernel
theorem dL_law_244 : decode cL_law 244 = .ok (.iload_n 3, 1) := by decide +kernel
theorem dL_law_245 : decode cL_law 245 = .ok (.iconst 1, 1) := by decide +kernel
theorem dL_law_246 : decode cL_law 246 = .ok (.iadd, 1) := by decide +kernel
theorem dL_law_247 : decode cL_law 247 = .ok (.iaload, 1) := by decide +kernel
theorem dL_law_248 : decode cL_law 248 = .ok (.invokevirtual 30, 3) := by decide +kernel
theorem dL_law_251 : decode cL_law 251 = .ok (.if_icmp .eq 955, 3) := by decide +kernel
theorem dL_law_254 : decode cL_law 254 = .ok (.iconst 0, 1) := by decide +kernel
theorem dL_law_255 : decode cL_law 255 = .ok (.ireturn, 1) := by decide +kernel
theorem dL_law_256 : decode cL_law 256 = .ok (.aload_n 1, 1) := by decide +kernel
theorem dL_law_257 : decode cL_law 257 = .ok (.aload_n 0, 1) := by decide +kernel
theorem dL_law_258 : decode cL_law 258 = .ok (.iload_n 3, 1) := by decide +kernel
theorem dL_law_259 : decode cL_law 259 = .ok (.iconst 1, 1) := by decide +kernel
theorem dL_law_260 : decode cL_law 260 = .ok (.iadd, 1) := by decide +kernel
theorem dL_law_261 : decode cL_law 261 = .ok (.iaload, 1) := by decide +kernel
theorem dL_law_262 : decode cL_law 262 = .ok (.aload_n 0, 1) := by decide +kernel
theorem dL_law_263 : decode cL_law 263 = .ok (.iload_n 3, 1) := by decide +kernel
theorem dL_law_264 : decode cL_law 264 = .ok (.iconst 2, 1) := by decide +kernel
theorem dL_law_265 : decode cL_law 265 = .ok (.iadd, 1) := by decide +kernel
theorem dL_law_266 : decode cL_law 266 = .ok (.iaload, 1) := by decide +kernel
theorem dL_law_267 : decode cL_law 267 = .ok (.invokevirtual 31, 3) := by decide +kernel
theorem dL_law_270 : decode cL_law 270 = .ok (.aload_n 2, 1) := by decide +kernel
theorem dL_law_271 : decode cL_law 271 = .ok (.aload_n 0, 1) := by decide +kernel
theorem dL_law_272 : decode cL_law 272 = .ok (.iload_n 3, 1) := by decide +kernel
theorem dL_law_273 : decode cL_law 273 = .ok (.iconst 1, 1) := by decide +kernel
theorem dL_law_274 : decode cL_law 274 = .ok (.iadd, 1) := by decide +kernel
theorem dL_law_275 : decode cL_law 275 = .ok (.iaload, 1) := by decide +kernel
theorem dL_law_276 : decode cL_law 276 = .ok (.aload_n 0, 1) := by decide +kernel
theorem dL_law_277 : decode cL_law 277 = .ok (.iload_n 3, 1) := by decide +kernel
theorem dL_law_278 : decode cL_law 278 = .ok (.iconst 2, 1) := by decide +kernel
theorem dL_law_279 : decode cL_law 279 = .ok (.iadd, 1) := by decide +kernel
theorem dL_law_280 : decode cL_law 280 = .ok (.iaload, 1) := by decide +kernel
theorem dL_law_281 : decode cL_law 281 = .ok (.invokevirtual 35, 3) := by decide +kernel
theorem dL_law_284 : decode cL_law 284 = .ok (.if_icmp .eq 922, 3) := by decide +kernel
theorem dL_law_287 : decode cL_law 287 = .ok (.iconst 0, 1) := by decide +kernel
theorem dL_law_288 : decode cL_law 288 = .ok (.ireturn, 1) := by decide +kernel
theorem dL_law_289 : decode cL_law 289 = .ok (.aload_n 1, 1) := by decide +kernel
theorem dL_law_290 : decode cL_law 290 = .ok (.aload_n 0, 1) := by decide +kernel
theorem dL_law_291 : decode cL_law 291 = .ok (.iload_n 3, 1) := by decide +kernel
theorem dL_law_292 : decode cL_law 292 = .ok (.iconst 1, 1) := by decide +kernel
theorem dL_law_293 : decode cL_law 293 = .ok (.iadd, 1) := by decide +kernel
theorem dL_law_294 : decode cL_law 294 = .ok (.iaload, 1) := by decide +kernel
theorem dL_law_295 : decode cL_law 295 = .ok (.aload_n 0, 1) := by decide +kernel
theorem dL_law_296 : decode cL_law 296 = .ok (.iload_n 3, 1) := by decide +kernel
theorem dL_law_297 : decode cL_law 297 = .ok (.iconst 2, 1) := by decide +kernel
theorem dL_law_298 : decode cL_law 298 = .ok (.iadd, 1) := by decide +kernel
theorem dL_law_299 : decode cL_law 299 = .ok (.iaload, 1) := by decide +kernel
theorem dL_law_300 : decode cL_law 300 = .ok (.invokevirtual 36, 3) := by decide +kernel
theorem dL_law_303 : decode cL_law 303 = .ok (.aload_n 2, 1) := by decide +kernel
theorem dL_law_304 : decode cL_law 304 = .ok (.aload_n 0, 1) := by decide +kernel
theorem dL_law_305 : decode cL_law 305 = .ok (.iload_n 3, 1) := by decide +kernel
theorem dL_law_306 : decode cL_law 306 = .ok (.iconst 1, 1) := by decide +kernel
theorem dL_law_307 : decode cL_law 307 = .ok (.iadd, 1) := by decide +kernel
theorem dL_law_308 : decode cL_law 308 = .ok (.iaload, 1) := by decide +kernel
theorem dL_law_309 : decode cL_law 309 = .ok (.aload_n 0, 1) := by decide +kernel
theorem dL_law_310 : decode cL_law 310 = .ok (.iload_n 3, 1) := by decide +kernel
theorem dL_law_311 : decode cL_law 311 = .ok (.iconst 2, 1) := by decide +kernel
theorem dL_law_312 : decode cL_law 312 = .ok (.iadd, 1) := by decide +kernel
theorem dL_law_313 : decode cL_law 313 = .ok (.iaload, 1) := by decide +kernel
theorem dL_law_314 : decode cL_law 314 = .ok (.invokevirtual 39, 3) := by decide +kernel
theorem dL_law_317 : decode cL_law 317 = .ok (.if_icmp .eq 889, 3) := by decide +kernel
theorem dL_law_320 : decode cL_law 320 = .ok (.iconst 0, 1) := by decide +kernel
theorem dL_law_321 : decode cL_law 321 = .ok (.ireturn, 1) := by decide +kernel
theorem dL_law_322 : decode cL_law 322 = .ok (.aload_n 1, 1) := by decide +kernel
theorem dL_law_323 : decode cL_law 323 = .ok (.aload_n 0, 1) := by decide +kernel
theorem dL_law_324 : decode cL_law 324 = .ok (.iload_n 3, 1) := by decide +kernel
theorem dL_law_325 : decode cL_law 325 = .ok (.iconst 1, 1) := by decide +kernel
theorem dL_law_326 : decode cL_law 326 = .ok (.iadd, 1) := by decide +kernel
theorem dL_law_327 : decode cL_law 327 = .ok (.iaload, 1) := by decide +kernel
theorem dL_law_328 : decode cL_law 328 = .ok (.invokevirtual 40, 3) := by decide +kernel
theorem dL_law_331 : decode cL_law 331 = .ok (.aload_n 2, 1) := by decide +kernel
theorem dL_law_332 : decode cL_law 332 = .ok (.aload_n 0, 1) := by decide +kernel
theorem dL_law_333 : decode cL_law 333 = .ok (.iload_n 3, 1) := by decide +kernel
theorem dL_law_334 : decode cL_law 334 = .ok (.iconst 1, 1) := by decide +kernel
theorem dL_law_335 : decode cL_law 335 = .ok (.iadd, 1) := by decide +kernel
theorem dL_law_336 : decode cL_law 336 = .ok (.iaload, 1) := by decide +kernel
theorem dL_law_337 : decode cL_law 337 = .ok (.invokevirtual 43, 3) := by decide +kernel
theorem dL_law_340 : decode cL_law 340 = .ok (.if_icmp .eq 866, 3) := by decide +kernel
theorem dL_law_343 : decode cL_law 343 = .ok (.iconst 0, 1) := by decide +kernel
theorem dL_law_344 : decode cL_law 344 = .ok (.ireturn, 1) := by decide +kernel
theorem dL_law_345 : decode cL_law 345 = .ok (.aload_n 1, 1) := by decide +kernel
theorem dL_law_346 : decode cL_law 346 = .ok (.aload_n 0, 1) := by decide +kernel
theorem dL_law_347 : decode cL_law 347 = .ok (.iload_n 3, 1) := by decide +kernel
theorem dL_law_348 : decode cL_law 348 = .ok (.iconst 1, 1) := by decide +kernel
theorem dL_law_349 : decode cL_law 349 = .ok (.iadd, 1) := by decide +kernel
theorem dL_law_350 : decode cL_law 350 = .ok (.iaload, 1) := by decide +kernel
theorem dL_law_351 : decode cL_law 351 = .ok (.aload_n 0, 1) := by decide +kernel
theorem dL_law_352 : decode cL_law 352 = .ok (.iload_n 3, 1) := by decide +kernel
theorem dL_law_353 : decode cL_law 353 = .ok (.iconst 2, 1) := by decide +kernel
theorem dL_law_354 : decode cL_law 354 = .ok (.iadd, 1) := by decide +kernel
theorem dL_law_355 : decode cL_law 355 = .ok (.iaload, 1) := by decide +kernel
theorem dL_law_356 : decode cL_law 356 = .ok (.invokevirtual 44, 3) := by decide +kernel
theorem dL_law_359 : decode cL_law 359 = .ok (.aload_n 2, 1) := by decide +kernel
theorem dL_law_360 : decode cL_law 360 = .ok (.aload_n 0, 1) := by decide +kernel
theorem dL_law_361 : decode cL_law 361 = .ok (.iload_n 3, 1) := by decide +kernel
theorem dL_law_362 : decode cL_law 362 = .ok (.iconst 1, 1) := by decide +kernel
theorem dL_law_363 : decode cL_law 363 = .ok (.iadd, 1) := by decide +kernel
theorem dL_law_364 : decode cL_law 364 = .ok (.iaload, 1) := by decide +kernel
theorem dL_law_365 : decode cL_law 365 = .ok (.aload_n 0, 1) := by decide +kernel
theorem dL_law_366 : decode cL_law 366 = .ok (.iload_n 3, 1) := by decide +kernel
theorem dL_law_367 : decode cL_law 367 = .ok (.iconst 2, 1) := by decide +kernel
theorem dL_law_368 : decode cL_law 368 = .ok (.iadd, 1) := by decide +kernel
theorem dL_law_369 : decode cL_law 369 = .ok (.iaload, 1) := by decide +kernel
theorem dL_law_370 : decode cL_law 370 = .ok (.invokevirtual 47, 3) := by decide +kernel
theorem dL_law_373 : decode cL_law 373 = .ok (.if_icmp .eq 833, 3) := by decide +kernel
theorem dL_law_376 : decode cL_law 376 = .ok (.iconst 0, 1) := by decide +kernel
theorem dL_law_377 : decode cL_law 377 = .ok (.ireturn, 1) := by decide +kernel
theorem dL_law_378 : decode cL_law 378 = .ok (.aload_n 1, 1) := by decide +kernel
theorem dL_law_379 : decode cL_law 379 = .ok (.aload_n 0, 1) := by decide +kernel
theorem dL_law_380 : decode cL_law 380 = .ok (.iload_n 3, 1) := by decide +kernel
theorem dL_law_381 : decode cL_law 381 = .ok (.iconst 1, 1) := by decide +kernel
theorem dL_law_382 : decode cL_law 382 = .ok (.iadd, 1) := by decide +kernel
theorem dL_law_383 : decode cL_law 383 = .ok (.iaload, 1) := by decide +kernel
theorem dL_law_384 : decode cL_law 384 = .ok (.aload_n 0, 1) := by decide +kernel
theorem dL_law_385 : decode cL_law 385 = .ok (.iload_n 3, 1) := by decide +kernel
theorem dL_law_386 : decode cL_law 386 = .ok (.iconst 2, 1) := by decide +kernel
theorem dL_law_387 : decode cL_law 387 = .ok (.iadd, 1) := by decide +kernel
theorem dL_law_388 : decode cL_law 388 = .ok (.iaload, 1) := by decide +kernel
theorem dL_law_389 : decode cL_law 389 = .ok (.invokevirtual 48, 3) := by decide +kernel
theorem dL_law_392 : decode cL_law 392 = .ok (.aload_n 2, 1) := by decide +kernel
theorem dL_law_393 : decode cL_law 393 = .ok (.aload_n 0, 1) := by decide +kernel
theorem dL_law_394 : decode cL_law 394 = .ok (.iload_n 3, 1) := by decide +kernel
theorem dL_law_395 : decode cL_law 395 = .ok (.iconst 1, 1) := by decide +kernel
theorem dL_law_396 : decode cL_law 396 = .ok (.iadd, 1) := by decide +kernel
theorem dL_law_397 : decode cL_law 397 = .ok (.iaload, 1) := by decide +kernel
theorem dL_law_398 : decode cL_law 398 = .ok (.aload_n 0, 1) := by decide +kernel
theorem dL_law_399 : decode cL_law 399 = .ok (.iload_n 3, 1) := by decide +kernel
theorem dL_law_400 : decode cL_law 400 = .ok (.iconst 2, 1) := by decide +kernel
theorem dL_law_401 : decode cL_law 401 = .ok (.iadd, 1) := by decide +kernel
theorem dL_law_402 : decode cL_law 402 = .ok (.iaload, 1) := by decide +kernel
theorem dL_law_403 : decode cL_law 403 = .ok (.invokevirtual 51, 3) := by decide +kernel
theorem dL_law_406 : decode cL_law 406 = .ok (.if_icmp .eq 800, 3) := by decide +kernel
theorem dL_law_409 : decode cL_law 409 = .ok (.iconst 0, 1) := by decide +kernel
theorem dL_law_410 : decode cL_law 410 = .ok (.ireturn, 1) := by decide +kernel
theorem dL_law_411 : decode cL_law 411 = .ok (.aload_n 1, 1) := by decide +kernel
theorem dL_law_412 : decode cL_law 412 = .ok (.aload_n 0, 1) := by decide +kernel
theorem dL_law_413 : decode cL_law 413 = .ok (.iload_n 3, 1) := by decide +kernel
theorem dL_law_414 : decode cL_law 414 = .ok (.iconst 1, 1) := by decide +kernel
theorem dL_law_415 : decode cL_law 415 = .ok (.iadd, 1) := by decide +kernel
theorem dL_law_416 : decode cL_law 416 = .ok (.iaload, 1) := by decide +kernel
theorem dL_law_417 : decode cL_law 417 = .ok (.aload_n 0, 1) := by decide +kernel
theorem dL_law_418 : decode cL_law 418 = .ok (.iload_n 3, 1) := by decide +kernel
theorem dL_law_419 : decode cL_law 419 = .ok (.iconst 2, 1) := by decide +kernel
theorem dL_law_420 : decode cL_law 420 = .ok (.iadd, 1) := by decide +kernel
theorem dL_law_421 : decode cL_law 421 = .ok (.iaload, 1) := by decide +kernel
theorem dL_law_422 : decode cL_law 422 = .ok (.aload_n 0, 1) := by decide +kernel
theorem dL_law_423 : decode cL_law 423 = .ok (.iload_n 3, 1) := by decide +kernel
theorem dL_law_424 : decode cL_law 424 = .ok (.iconst 3, 1) := by decide +kernel
theorem dL_law_425 : decode cL_law 425 = .ok (.iadd, 1) := by decide +kernel
theorem dL_law_426 : decode cL_law 426 = .ok (.iaload, 1) := by decide +kernel
theorem dL_law_427 : decode cL_law 427 = .ok (.invokevirtual 52, 3) := by decide +kernel
theorem dL_law_430 : decode cL_law 430 = .ok (.aload_n 2, 1) := by decide +kernel
theorem dL_law_431 : decode cL_law 431 = .ok (.aload_n 0, 1) := by decide +kernel
theorem dL_law_432 : decode cL_law 432 = .ok (.iload_n 3, 1) := by decide +kernel
theorem dL_law_433 : decode cL_law 433 = .ok (.iconst 1, 1) := by decide +kernel
theorem dL_law_434 : decode cL_law 434 = .ok (.iadd, 1) := by decide +kernel
theorem dL_law_435 : decode cL_law 435 = .ok (.iaload, 1) := by decide +kernel
theorem dL_law_436 : decode cL_law 436 = .ok (.aload_n 0, 1) := by decide +kernel
theorem dL_law_437 : decode cL_law 437 = .ok (.iload_n 3, 1) := by decide +kernel
theorem dL_law_438 : decode cL_law 438 = .ok (.iconst 2, 1) := by decide +kernel
theorem dL_law_439 : decode cL_law 439 = .ok (.iadd, 1) := by decide +kernel
theorem dL_law_440 : decode cL_law 440 = .ok (.iaload, 1) := by decide +kernel
theorem dL_law_441 : decode cL_law 441 = .ok (.aload_n 0, 1) := by decide +kernel
theorem dL_law_442 : decode cL_law 442 = .ok (.iload_n 3, 1) := by decide +kernel
theorem dL_law_443 : decode cL_law 443 = .ok (.iconst 3, 1) := by decide +kernel
theorem dL_law_444 : decode cL_law 444 = .ok (.iadd, 1) := by decide +kernel
theorem dL_law_445 : decode cL_law 445 = .ok (.iaload, 1) := by decide +kernel
theorem dL_law_446 : decode cL_law 446 = .ok (.invokevirtual 56, 3) := by decide +kernel
theorem dL_law_449 : decode cL_law 449 = .ok (.if_icmp .eq 757, 3) := by decide +kernel
theorem dL_law_452 : decode cL_law 452 = .ok (.iconst 0, 1) := by decide +kernel
theorem dL_law_453 : decode cL_law 453 = .ok (.ireturn, 1) := by decide +kernel
theorem dL_law_454 : decode cL_law 454 = .ok (.aload_n 1, 1) := by decide +kernel
theorem dL_law_455 : decode cL_law 455 = .ok (.aload_n 0, 1) := by decide +kernel
theorem dL_law_456 : decode cL_law 456 = .ok (.iload_n 3, 1) := by decide +kernel
theorem dL_law_457 : decode cL_law 457 = .ok (.iconst 1, 1) := by decide +kernel
theorem dL_law_458 : decode cL_law 458 = .ok (.iadd, 1) := by decide +kernel
theorem dL_law_459 : decode cL_law 459 = .ok (.iaload, 1) := by decide +kernel
theorem dL_law_460 : decode cL_law 460 = .ok (.aload_n 0, 1) := by decide +kernel
theorem dL_law_461 : decode cL_law 461 = .ok (.iload_n 3, 1) := by decide +kernel
theorem dL_law_462 : decode cL_law 462 = .ok (.iconst 2, 1) := by decide +kernel
theorem dL_law_463 : decode cL_law 463 = .ok (.iadd, 1) := by decide +kernel
theorem dL_law_464 : decode cL_law 464 = .ok (.iaload, 1) := by decide +kernel
theorem dL_law_465 : decode cL_law 465 = .ok (.invokevirtual 57, 3) := by decide +kernel
theorem dL_law_468 : decode cL_law 468 = .ok (.aload_n 2, 1) := by decide +kernel
theorem dL_law_469 : decode cL_law 469 = .ok (.aload_n 0, 1) := by decide +kernel
theorem dL_law_470 : decode cL_law 470 = .ok (.iload_n 3, 1) := by decide +kernel
theorem dL_law_471 : decode cL_law 471 = .ok (.iconst 1, 1) := by decide +kernel
theorem dL_law_472 : decode cL_law 472 = .ok (.iadd, 1) := by decide +kernel
theorem dL_law_473 : decode cL_law 473 = .ok (.iaload, 1) := by decide +kernel
theorem dL_law_474 : decode cL_law 474 = .ok (.aload_n 0, 1) := by decide +kernel
theorem dL_law_475 : decode cL_law 475 = .ok (.iload_n 3, 1) := by decide +kernel
theorem dL_law_476 : decode cL_law 476 = .ok (.iconst 2, 1) := by decide +kernel
theorem dL_law_477 : decode cL_law 477 = .ok (.iadd, 1) := by decide +kernel
theorem dL_law_478 : decode cL_law 478 = .ok (.iaload, 1) := by decide +kernel
theorem dL_law_479 : decode cL_law 479 = .ok (.invokevirtual 60, 3) := by decide +kernel
theorem dL_law_482 : decode cL_law 482 = .ok (.if_icmp .eq 724, 3) := by decide +kernel
theorem dL_law_485 : decode cL_law 485 = .ok (.iconst 0, 1) := by decide +kernel
theorem dL_law_486 : decode cL_law 486 = .ok (.ireturn, 1) := by decide +kernel
theorem dL_law_487 : decode cL_law 487 = .ok (.aload_n 1, 1) := by decide +kernel
theorem dL_law_488 : decode cL_law 488 = .ok (.aload_n 0, 1) := by decide +kernel
theorem dL_law_489 : decode cL_law 489 = .ok (.iload_n 3, 1) := by decide +kernel
theorem dL_law_490 : decode cL_law 490 = .ok (.iconst 1, 1) := by decide +kernel
theorem dL_law_491 : decode cL_law 491 = .ok (.iadd, 1) := by decide +kernel
theorem dL_law_492 : decode cL_law 492 = .ok (.iaload, 1) := by decide +kernel
theorem dL_law_493 : decode cL_law 493 = .ok (.invokevirtual 61, 3) := by decide +kernel
theorem dL_law_496 : decode cL_law 496 = .ok (.aload_n 2, 1) := by decide +kernel
theorem dL_law_497 : decode cL_law 497 = .ok (.aload_n 0, 1) := by decide +kernel
theorem dL_law_498 : decode cL_law 498 = .ok (.iload_n 3, 1) := by decide +kernel
theorem dL_law_499 : decode cL_law 499 = .ok (.iconst 1, 1) := by decide +kernel
theorem dL_law_500 : decode cL_law 500 = .ok (.iadd, 1) := by decide +kernel
theorem dL_law_501 : decode cL_law 501 = .ok (.iaload, 1) := by decide +kernel
theorem dL_law_502 : decode cL_law 502 = .ok (.invokevirtual 64, 3) := by decide +kernel
theorem dL_law_505 : decode cL_law 505 = .ok (.if_icmp .eq 701, 3) := by decide +kernel
theorem dL_law_508 : decode cL_law 508 = .ok (.iconst 0, 1) := by decide +kernel
theorem dL_law_509 : decode cL_law 509 = .ok (.ireturn, 1) := by decide +kernel
theorem dL_law_510 : decode cL_law 510 = .ok (.aload_n 1, 1) := by decide +kernel
theorem dL_law_511 : decode cL_law 511 = .ok (.invokevirtual 65, 3) := by decide +kernel
theorem dL_law_514 : decode cL_law 514 = .ok (.aload_n 2, 1) := by decide +kernel
theorem dL_law_515 : decode cL_law 515 = .ok (.invokevirtual 68, 3) := by decide +kernel
theorem dL_law_518 : decode cL_law 518 = .ok (.if_icmp .eq 688, 3) := by decide +kernel
theorem dL_law_521 : decode cL_law 521 = .ok (.iconst 0, 1) := by decide +kernel
theorem dL_law_522 : decode cL_law 522 = .ok (.ireturn, 1) := by decide +kernel
theorem dL_law_523 : decode cL_law 523 = .ok (.aload_n 1, 1) := by decide +kernel
theorem dL_law_524 : decode cL_law 524 = .ok (.aload_n 0, 1) := by decide +kernel
theorem dL_law_525 : decode cL_law 525 = .ok (.iload_n 3, 1) := by decide +kernel
theorem dL_law_526 : decode cL_law 526 = .ok (.iconst 1, 1) := by decide +kernel
theorem dL_law_527 : decode cL_law 527 = .ok (.iadd, 1) := by decide +kernel
theorem dL_law_528 : decode cL_law 528 = .ok (.iaload, 1) := by decide +kernel
theorem dL_law_529 : decode cL_law 529 = .ok (.aload_n 0, 1) := by decide +kernel
theorem dL_law_530 : decode cL_law 530 = .ok (.iload_n 3, 1) := by decide +kernel
theorem dL_law_531 : decode cL_law 531 = .ok (.iconst 2, 1) := by decide +kernel
theorem dL_law_532 : decode cL_law 532 = .ok (.iadd, 1) := by decide +kernel
theorem dL_law_533 : decode cL_law 533 = .ok (.iaload, 1) := by decide +kernel
theorem dL_law_534 : decode cL_law 534 = .ok (.aload_n 0, 1) := by decide +kernel
theorem dL_law_535 : decode cL_law 535 = .ok (.iload_n 3, 1) := by decide +kernel
theorem dL_law_536 : decode cL_law 536 = .ok (.iconst 3, 1) := by decide +kernel
theorem dL_law_537 : decode cL_law 537 = .ok (.iadd, 1) := by decide +kernel
theorem dL_law_538 : decode cL_law 538 = .ok (.iaload, 1) := by decide +kernel
theorem dL_law_539 : decode cL_law 539 = .ok (.invokevirtual 69, 3) := by decide +kernel
theorem dL_law_542 : decode cL_law 542 = .ok (.aload_n 2, 1) := by decide +kernel
theorem dL_law_543 : decode cL_law 543 = .ok (.aload_n 0, 1) := by decide +kernel
theorem dL_law_544 : decode cL_law 544 = .ok (.iload_n 3, 1) := by decide +kernel
theorem dL_law_545 : decode cL_law 545 = .ok (.iconst 1, 1) := by decide +kernel
theorem dL_law_546 : decode cL_law 546 = .ok (.iadd, 1) := by decide +kernel
theorem dL_law_547 : decode cL_law 547 = .ok (.iaload, 1) := by decide +kernel
theorem dL_law_548 : decode cL_law 548 = .ok (.aload_n 0, 1) := by decide +kernel
theorem dL_law_549 : decode cL_law 549 = .ok (.iload_n 3, 1) := by decide +kernel
theorem dL_law_550 : decode cL_law 550 = .ok (.iconst 2, 1) := by decide +kernel
theorem dL_law_551 : decode cL_law 551 = .ok (.iadd, 1) := by decide +kernel
theorem dL_law_552 : decode cL_law 552 = .ok (.iaload, 1) := by decide +kernel
theorem dL_law_553 : decode cL_law 553 = .ok (.aload_n 0, 1) := by decide +kernel
theorem dL_law_554 : decode cL_law 554 = .ok (.iload_n 3, 1) := by decide +kernel
theorem dL_law_555 : decode cL_law 555 = .ok (.iconst 3, 1) := by decide +kernel
theorem dL_law_556 : decode cL_law 556 = .ok (.iadd, 1) := by decide +kernel
theorem dL_law_557 : decode cL_law 557 = .ok (.iaload, 1) := by decide +kernel
theorem dL_law_558 : decode cL_law 558 = .ok (.invokevirtual 72, 3) := by decide +kernel
theorem dL_law_561 : decode cL_law 561 = .ok (.if_icmp .eq 645, 3) := by decide +kernel
theorem dL_law_564 : decode cL_law 564 = .ok (.iconst 0, 1) := by decide +kernel
theorem dL_law_565 : decode cL_law 565 = .ok (.ireturn, 1) := by decide +kernel
theorem dL_law_566 : decode cL_law 566 = .ok (.aload_n 1, 1) := by decide +kernel
theorem dL_law_567 : decode cL_law 567 = .ok (.aload_n 0, 1) := by decide +kernel
theorem dL_law_568 : decode cL_law 568 = .ok (.iload_n 3, 1) := by decide +kernel
theorem dL_law_569 : decode cL_law 569 = .ok (.iconst 1, 1) := by decide +kernel
theorem dL_law_570 : decode cL_law 570 = .ok (.iadd, 1) := by decide +kernel
theorem dL_law_571 : decode cL_law 571 = .ok (.iaload, 1) := by decide +kernel
theorem dL_law_572 : decode cL_law 572 = .ok (.aload_n 0, 1) := by decide +kernel
theorem dL_law_573 : decode cL_law 573 = .ok (.iload_n 3, 1) := by decide +kernel
theorem dL_law_574 : decode cL_law 574 = .ok (.iconst 2, 1) := by decide +kernel
theorem dL_law_575 : decode cL_law 575 = .ok (.iadd, 1) := by decide +kernel
theorem dL_law_576 : decode cL_law 576 = .ok (.iaload, 1) := by decide +kernel
theorem dL_law_577 : decode cL_law 577 = .ok (.aload_n 0, 1) := by decide +kernel
theorem dL_law_578 : decode cL_law 578 = .ok (.iload_n 3, 1) := by decide +kernel
theorem dL_law_579 : decode cL_law 579 = .ok (.iconst 3, 1) := by decide +kernel
theorem dL_law_580 : decode cL_law 580 = .ok (.iadd, 1) := by decide +kernel
theorem dL_law_581 : decode cL_law 581 = .ok (.iaload, 1) := by decide +kernel
theorem dL_law_582 : decode cL_law 582 = .ok (.invokevirtual 73, 3) := by decide +kernel
theorem dL_law_585 : decode cL_law 585 = .ok (.aload_n 2, 1) := by decide +kernel
theorem dL_law_586 : decode cL_law 586 = .ok (.aload_n 0, 1) := by decide +kernel
theorem dL_law_587 : decode cL_law 587 = .ok (.iload_n 3, 1) := by decide +kernel
theorem dL_law_588 : decode cL_law 588 = .ok (.iconst 1, 1) := by decide +kernel
theorem dL_law_589 : decode cL_law 589 = .ok (.iadd, 1) := by decide +kernel
theorem dL_law_590 : decode cL_law 590 = .ok (.iaload, 1) := by decide +kernel
theorem dL_law_591 : decode cL_law 591 = .ok (.aload_n 0, 1) := by decide +kernel
theorem dL_law_592 : decode cL_law 592 = .ok (.iload_n 3, 1) := by decide +kernel
theorem dL_law_593 : decode cL_law 593 = .ok (.iconst 2, 1) := by decide +kernel
theorem dL_law_594 : decode cL_law 594 = .ok (.iadd, 1) := by decide +kernel
theorem dL_law_595 : decode cL_law 595 = .ok (.iaload, 1) := by decide +kernel
theorem dL_law_596 : decode cL_law 596 = .ok (.aload_n 0, 1) := by decide +kernel
theorem dL_law_597 : decode cL_law 597 = .ok (.iload_n 3, 1) := by decide +kernel
theorem dL_law_598 : decode cL_law 598 = .ok (.iconst 3, 1) := by decide +kernel
theorem dL_law_599 : decode cL_law 599 = .ok (.iadd, 1) := by decide +kernel
theorem dL_law_600 : decode cL_law 600 = .ok (.iaload, 1) := by decide +kernel
theorem dL_law_601 : decode cL_law 601 = .ok (.invokevirtual 76, 3) := by decide +kernel
theorem dL_law_604 : decode cL_law 604 = .ok (.if_icmp .eq 602, 3) := by decide +kernel
theorem dL_law_607 : decode cL_law 607 = .ok (.iconst 0, 1) := by decide +kernel
theorem dL_law_608 : decode cL_law 608 = .ok (.ireturn, 1) := by decide +kernel
theorem dL_law_609 : decode cL_law 609 = .ok (.aload_n 1, 1) := by decide +kernel
theorem dL_law_610 : decode cL_law 610 = .ok (.aload_n 0, 1) := by decide +kernel
theorem dL_law_611 : decode cL_law 611 = .ok (.iload_n 3, 1) := by decide +kernel
theorem dL_law_612 : decode cL_law 612 = .ok (.iconst 1, 1) := by decide +kernel
theorem dL_law_613 : decode cL_law 613 = .ok (.iadd, 1) := by decide +kernel
theorem dL_law_614 : decode cL_law 614 = .ok (.iaload, 1) := by decide +kernel
theorem dL_law_615 : decode cL_law 615 = .ok (.aload_n 0, 1) := by decide +kernel
theorem dL_law_616 : decode cL_law 616 = .ok (.iload_n 3, 1) := by decide +kernel
theorem dL_law_617 : decode cL_law 617 = .ok (.iconst 2, 1) := by decide +kernel
theorem dL_law_618 : decode cL_law 618 = .ok (.iadd, 1) := by decide +kernel
theorem dL_law_619 : decode cL_law 619 = .ok (.iaload, 1) := by decide +kernel
theorem dL_law_620 : decode cL_law 620 = .ok (.aload_n 0, 1) := by decide +kernel
theorem dL_law_621 : decode cL_law 621 = .ok (.iload_n 3, 1) := by decide +kernel
theorem dL_law_622 : decode cL_law 622 = .ok (.iconst 3, 1) := by decide +kernel
theorem dL_law_623 : decode cL_law 623 = .ok (.iadd, 1) := by decide +kernel
theorem dL_law_624 : decode cL_law 624 = .ok (.iaload, 1) := by decide +kernel
theorem dL_law_625 : decode cL_law 625 = .ok (.aload_n 0, 1) := by decide +kernel
theorem dL_law_626 : decode cL_law 626 = .ok (.iload_n 3, 1) := by decide +kernel
theorem dL_law_627 : decode cL_law 627 = .ok (.iconst 4, 1) := by decide +kernel
theorem dL_law_628 : decode cL_law 628 = .ok (.iadd, 1) := by decide +kernel
theorem dL_law_629 : decode cL_law 629 = .ok (.iaload, 1) := by decide +kernel
theorem dL_law_630 : decode cL_law 630 = .ok (.invokevirtual 77, 3) := by decide +kernel
theorem dL_law_633 : decode cL_law 633 = .ok (.aload_n 2, 1) := by decide +kernel
theorem dL_law_634 : decode cL_law 634 = .ok (.aload_n 0, 1) := by decide +kernel
theorem dL_law_635 : decode cL_law 635 = .ok (.iload_n 3, 1) := by decide +kernel
theorem dL_law_636 : decode cL_law 636 = .ok (.iconst 1, 1) := by decide +kernel
theorem dL_law_637 : decode cL_law 637 = .ok (.iadd, 1) := by decide +kernel
theorem dL_law_638 : decode cL_law 638 = .ok (.iaload, 1) := by decide +kernel
theorem dL_law_639 : decode cL_law 639 = .ok (.aload_n 0, 1) := by decide +kernel
theorem dL_law_640 : decode cL_law 640 = .ok (.iload_n 3, 1) := by decide +kernel
theorem dL_law_641 : decode cL_law 641 = .ok (.iconst 2, 1) := by decide +kernel
theorem dL_law_642 : decode cL_law 642 = .ok (.iadd, 1) := by decide +kernel
theorem dL_law_643 : decode cL_law 643 = .ok (.iaload, 1) := by decide +kernel
theorem dL_law_644 : decode cL_law 644 = .ok (.aload_n 0, 1) := by decide +kernel
theorem dL_law_645 : decode cL_law 645 = .ok (.iload_n 3, 1) := by decide +kernel
theorem dL_law_646 : decode cL_law 646 = .ok (.iconst 3, 1) := by decide +kernel
theorem dL_law_647 : decode cL_law 647 = .ok (.iadd, 1) := by decide +kernel
theorem dL_law_648 : decode cL_law 648 = .ok (.iaload, 1) := by decide +kernel
theorem dL_law_649 : decode cL_law 649 = .ok (.aload_n 0, 1) := by decide +kernel
theorem dL_law_650 : decode cL_law 650 = .ok (.iload_n 3, 1) := by decide +kernel
theorem dL_law_651 : decode cL_law 651 = .ok (.iconst 4, 1) := by decide +kernel
theorem dL_law_652 : decode cL_law 652 = .ok (.iadd, 1) := by decide +kernel
theorem dL_law_653 : decode cL_law 653 = .ok (.iaload, 1) := by decide +kernel
theorem dL_law_654 : decode cL_law 654 = .ok (.invokevirtual 81, 3) := by decide +kernel
theorem dL_law_657 : decode cL_law 657 = .ok (.if_icmp .eq 549, 3) := by decide +kernel
theorem dL_law_660 : decode cL_law 660 = .ok (.iconst 0, 1) := by decide +kernel
theorem dL_law_661 : decode cL_law 661 = .ok (.ireturn, 1) := by decide +kernel
theorem dL_law_662 : decode cL_law 662 = .ok (.aload_n 1, 1) := by decide +kernel
theorem dL_law_663 : decode cL_law 663 = .ok (.aload_n 0, 1) := by decide +kernel
theorem dL_law_664 : decode cL_law 664 = .ok (.iload_n 3, 1) := by decide +kernel
theorem dL_law_665 : decode cL_law 665 = .ok (.iconst 1, 1) := by decide +kernel
theorem dL_law_666 : decode cL_law 666 = .ok (.iadd, 1) := by decide +kernel
theorem dL_law_667 : decode cL_law 667 = .ok (.iaload, 1) := by decide +kernel
theorem dL_law_668 : decode cL_law 668 = .ok (.aload_n 0, 1) := by decide +kernel
theorem dL_law_669 : decode cL_law 669 = .ok (.iload_n 3, 1) := by decide +kernel
theorem dL_law_670 : decode cL_law 670 = .ok (.iconst 2, 1) := by decide +kernel
theorem dL_law_671 : decode cL_law 671 = .ok (.iadd, 1) := by decide +kernel
theorem dL_law_672 : decode cL_law 672 = .ok (.iaload, 1) := by decide +kernel
theorem dL_law_673 : decode cL_law 673 = .ok (.invokevirtual 82, 3) := by decide +kernel
theorem dL_law_676 : decode cL_law 676 = .ok (.aload_n 2, 1) := by decide +kernel
theorem dL_law_677 : decode cL_law 677 = .ok (.aload_n 0, 1) := by decide +kernel
theorem dL_law_678 : decode cL_law 678 = .ok (.iload_n 3, 1) := by decide +kernel
theorem dL_law_679 : decode cL_law 679 = .ok (.iconst 1, 1) := by decide +kernel
theorem dL_law_680 : decode cL_law 680 = .ok (.iadd, 1) := by decide +kernel
theorem dL_law_681 : decode cL_law 681 = .ok (.iaload, 1) := by decide +kernel
theorem dL_law_682 : decode cL_law 682 = .ok (.aload_n 0, 1) := by decide +kernel
theorem dL_law_683 : decode cL_law 683 = .ok (.iload_n 3, 1) := by decide +kernel
theorem dL_law_684 : decode cL_law 684 = .ok (.iconst 2, 1) := by decide +kernel
theorem dL_law_685 : decode cL_law 685 = .ok (.iadd, 1) := by decide +kernel
theorem dL_law_686 : decode cL_law 686 = .ok (.iaload, 1) := by decide +kernel
theorem dL_law_687 : decode cL_law 687 = .ok (.invokevirtual 85, 3) := by decide +kernel
theorem dL_law_690 : decode cL_law 690 = .ok (.if_icmp .eq 516, 3) := by decide +kernel
theorem dL_law_693 : decode cL_law 693 = .ok (.iconst 0, 1) := by decide +kernel
theorem dL_law_694 : decode cL_law 694 = .ok (.ireturn, 1) := by decide +kernel
theorem dL_law_695 : decode cL_law 695 = .ok (.aload_n 1, 1) := by decide +kernel
theorem dL_law_696 : decode cL_law 696 = .ok (.aload_n 0, 1) := by decide +kernel
theorem dL_law_697 : decode cL_law 697 = .ok (.iload_n 3, 1) := by decide +kernel
theorem dL_law_698 : decode cL_law 698 = .ok (.iconst 1, 1) := by decide +kernel
theorem dL_law_699 : decode cL_law 699 = .ok (.iadd, 1) := by decide +kernel
theorem dL_law_700 : decode cL_law 700 = .ok (.iaload, 1) := by decide +kernel
theorem dL_law_701 : decode cL_law 701 = .ok (.invokevirtual 86, 3) := by decide +kernel
theorem dL_law_704 : decode cL_law 704 = .ok (.aload_n 2, 1) := by decide +kernel
theorem dL_law_705 : decode cL_law 705 = .ok (.aload_n 0, 1) := by decide +kernel
theorem dL_law_706 : decode cL_law 706 = .ok (.iload_n 3, 1) := by decide +kernel
theorem dL_law_707 : decode cL_law 707 = .ok (.iconst 1, 1) := by decide +kernel
theorem dL_law_708 : decode cL_law 708 = .ok (.iadd, 1) := by decide +kernel
theorem dL_law_709 : decode cL_law 709 = .ok (.iaload, 1) := by decide +kernel
theorem dL_law_710 : decode cL_law 710 = .ok (.invokevirtual 89, 3) := by decide +kernel
theorem dL_law_713 : decode cL_law 713 = .ok (.if_icmp .eq 493, 3) := by decide +kernel
theorem dL_law_716 : decode cL_law 716 = .ok (.iconst 0, 1) := by decide +kernel
theorem dL_law_717 : decode cL_law 717 = .ok (.ireturn, 1) := by decide +kernel
theorem dL_law_718 : decode cL_law 718 = .ok (.aload_n 1, 1) := by decide +kernel
theorem dL_law_719 : decode cL_law 719 = .ok (.aload_n 0, 1) := by decide +kernel
theorem dL_law_720 : decode cL_law 720 = .ok (.iload_n 3, 1) := by decide +kernel
theorem dL_law_721 : decode cL_law 721 = .ok (.iconst 1, 1) := by decide +kernel
theorem dL_law_722 : decode cL_law 722 = .ok (.iadd, 1) := by decide +kernel
theorem dL_law_723 : decode cL_law 723 = .ok (.iaload, 1) := by decide +kernel
theorem dL_law_724 : decode cL_law 724 = .ok (.invokevirtual 90, 3) := by decide +kernel
theorem dL_law_727 : decode cL_law 727 = .ok (.aload_n 2, 1) := by decide +kernel
theorem dL_law_728 : decode cL_law 728 = .ok (.aload_n 0, 1) := by decide +kernel
theorem dL_law_729 : decode cL_law 729 = .ok (.iload_n 3, 1) := by decide +kernel
theorem dL_law_730 : decode cL_law 730 = .ok (.iconst 1, 1) := by decide +kernel
theorem dL_law_731 : decode cL_law 731 = .ok (.iadd, 1) := by decide +kernel
theorem dL_law_732 : decode cL_law 732 = .ok (.iaload, 1) := by decide +kernel
theorem dL_law_733 : decode cL_law 733 = .ok (.invokevirtual 93, 3) := by decide +kernel
theorem dL_law_736 : decode cL_law 736 = .ok (.if_icmp .eq 470, 3) := by decide +kernel
theorem dL_law_739 : decode cL_law 739 = .ok (.iconst 0, 1) := by decide +kernel
theorem dL_law_740 : decode cL_law 740 = .ok (.ireturn, 1) := by decide +kernel
theorem dL_law_741 : decode cL_law 741 = .ok (.aload_n 1, 1) := by decide +kernel
theorem dL_law_742 : decode cL_law 742 = .ok (.aload_n 0, 1) := by decide +kernel
theorem dL_law_743 : decode cL_law 743 = .ok (.iload_n 3, 1) := by decide +kernel
theorem dL_law_744 : decode cL_law 744 = .ok (.iconst 1, 1) := by decide +kernel
theorem dL_law_745 : decode cL_law 745 = .ok (.iadd, 1) := by decide +kernel
theorem dL_law_746 : decode cL_law 746 = .ok (.iaload, 1) := by decide +kernel
theorem dL_law_747 : decode cL_law 747 = .ok (.aload_n 0, 1) := by decide +kernel
theorem dL_law_748 : decode cL_law 748 = .ok (.iload_n 3, 1) := by decide +kernel
theorem dL_law_749 : decode cL_law 749 = .ok (.iconst 2, 1) := by decide +kernel
theorem dL_law_750 : decode cL_law 750 = .ok (.iadd, 1) := by decide +kernel
theorem dL_law_751 : decode cL_law 751 = .ok (.iaload, 1) := by decide +kernel
theorem dL_law_752 : decode cL_law 752 = .ok (.aload_n 0, 1) := by decide +kernel
theorem dL_law_753 : decode cL_law 753 = .ok (.iload_n 3, 1) := by decide +kernel
theorem dL_law_754 : decode cL_law 754 = .ok (.iconst 3, 1) := by decide +kernel
theorem dL_law_755 : decode cL_law 755 = .ok (.iadd, 1) := by decide +kernel
theorem dL_law_756 : decode cL_law 756 = .ok (.iaload, 1) := by decide +kernel
theorem dL_law_757 : decode cL_law 757 = .ok (.aload_n 0, 1) := by decide +kernel
theorem dL_law_758 : decode cL_law 758 = .ok (.iload_n 3, 1) := by decide +kernel
theorem dL_law_759 : decode cL_law 759 = .ok (.iconst 4, 1) := by decide +kernel
theorem dL_law_760 : decode cL_law 760 = .ok (.iadd, 1) := by decide +kernel
theorem dL_law_761 : decode cL_law 761 = .ok (.iaload, 1) := by decide +kernel
theorem dL_law_762 : decode cL_law 762 = .ok (.invokevirtual 94, 3) := by decide +kernel
theorem dL_law_765 : decode cL_law 765 = .ok (.aload_n 2, 1) := by decide +kernel
theorem dL_law_766 : decode cL_law 766 = .ok (.aload_n 0, 1) := by decide +kernel
theorem dL_law_767 : decode cL_law 767 = .ok (.iload_n 3, 1) := by decide +kernel
theorem dL_law_768 : decode cL_law 768 = .ok (.iconst 1, 1) := by decide +kernel
theorem dL_law_769 : decode cL_law 769 = .ok (.iadd, 1) := by decide +kernel
theorem dL_law_770 : decode cL_law 770 = .ok (.iaload, 1) := by decide +kernel
theorem dL_law_771 : decode cL_law 771 = .ok (.aload_n 0, 1) := by decide +kernel
theorem dL_law_772 : decode cL_law 772 = .ok (.iload_n 3, 1) := by decide +kernel
theorem dL_law_773 : decode cL_law 773 = .ok (.iconst 2, 1) := by decide +kernel
theorem dL_law_774 : decode cL_law 774 = .ok (.iadd, 1) := by decide +kernel
theorem dL_law_775 : decode cL_law 775 = .ok (.iaload, 1) := by decide +kernel
theorem dL_law_776 : decode cL_law 776 = .ok (.aload_n 0, 1) := by decide +kernel
theorem dL_law_777 : decode cL_law 777 = .ok (.iload_n 3, 1) := by decide +kernel
theorem dL_law_778 : decode cL_law 778 = .ok (.iconst 3, 1) := by decide +kernel
theorem dL_law_779 : decode cL_law 779 = .ok (.iadd, 1) := by decide +kernel
theorem dL_law_780 : decode cL_law 780 = .ok (.iaload, 1) := by decide +kernel
theorem dL_law_781 : decode cL_law 781 = .ok (.aload_n 0, 1) := by decide +kernel
theorem dL_law_782 : decode cL_law 782 = .ok (.iload_n 3, 1) := by decide +kernel
theorem dL_law_783 : decode cL_law 783 = .ok (.iconst 4, 1) := by decide +kernel
theorem dL_law_784 : decode cL_law 784 = .ok (.iadd, 1) := by decide +kernel
theorem dL_law_785 : decode cL_law 785 = .ok (.iaload, 1) := by decide +kernel
theorem dL_law_786 : decode cL_law 786 = .ok (.invokevirtual 97, 3) := by decide +kernel
theorem dL_law_789 : decode cL_law 789 = .ok (.if_icmp .eq 417, 3) := by decide +kernel
theorem dL_law_792 : decode cL_law 792 = .ok (.iconst 0, 1) := by decide +kernel
theorem dL_law_793 : decode cL_law 793 = .ok (.ireturn, 1) := by decide +kernel
theorem dL_law_794 : decode cL_law 794 = .ok (.aload_n 1, 1) := by decide +kernel
theorem dL_law_795 : decode cL_law 795 = .ok (.aload_n 0, 1) := by decide +kernel
theorem dL_law_796 : decode cL_law 796 = .ok (.iload_n 3, 1) := by decide +kernel
theorem dL_law_797 : decode cL_law 797 = .ok (.iconst 1, 1) := by decide +kernel
theorem dL_law_798 : decode cL_law 798 = .ok (.iadd, 1) := by decide +kernel
theorem dL_law_799 : decode cL_law 799 = .ok (.iaload, 1) := by decide +kernel
theorem dL_law_800 : decode cL_law 800 = .ok (.aload_n 0, 1) := by decide +kernel
theorem dL_law_801 : decode cL_law 801 = .ok (.iload_n 3, 1) := by decide +kernel
theorem dL_law_802 : decode cL_law 802 = .ok (.iconst 2, 1) := by decide +kernel
theorem dL_law_803 : decode cL_law 803 = .ok (.iadd, 1) := by decide +kernel
theorem dL_law_804 : decode cL_law 804 = .ok (.iaload, 1) := by decide +kernel
theorem dL_law_805 : decode cL_law 805 = .ok (.aload_n 0, 1) := by decide +kernel
theorem dL_law_806 : decode cL_law 806 = .ok (.iload_n 3, 1) := by decide +kernel
theorem dL_law_807 : decode cL_law 807 = .ok (.iconst 3, 1) := by decide +kernel
theorem dL_law_808 : decode cL_law 808 = .ok (.iadd, 1) := by decide +kernel
theorem dL_law_809 : decode cL_law 809 = .ok (.iaload, 1) := by decide +kernel
theorem dL_law_810 : decode cL_law 810 = .ok (.aload_n 0, 1) := by decide +kernel
theorem dL_law_811 : decode cL_law 811 = .ok (.iload_n 3, 1) := by decide +kernel
theorem dL_law_812 : decode cL_law 812 = .ok (.iconst 4, 1) := by decide +kernel
theorem dL_law_813 : decode cL_law 813 = .ok (.iadd, 1) := by decide +kernel
theorem dL_law_814 : decode cL_law 814 = .ok (.iaload, 1) := by decide +kernel
theorem dL_law_815 : decode cL_law 815 = .ok (.invokevirtual 98, 3) := by decide +kernel
theorem dL_law_818 : decode cL_law 818 = .ok (.aload_n 2, 1) := by decide +kernel
theorem dL_law_819 : decode cL_law 819 = .ok (.aload_n 0, 1) := by decide +kernel
theorem dL_law_820 : decode cL_law 820 = .ok (.iload_n 3, 1) := by decide +kernel
theorem dL_law_821 : decode cL_law 821 = .ok (.iconst 1, 1) := by decide +kernel
theorem dL_law_822 : decode cL_law 822 = .ok (.iadd, 1) := by decide +kernel
theorem dL_law_823 : decode cL_law 823 = .ok (.iaload, 1) := by decide +kernel
theorem dL_law_824 : decode cL_law 824 = .ok (.aload_n 0, 1) := by decide +kernel
theorem dL_law_825 : decode cL_law 825 = .ok (.iload_n 3, 1) := by decide +kernel
theorem dL_law_826 : decode cL_law 826 = .ok (.iconst 2, 1) := by decide +kernel
theorem dL_law_827 : decode cL_law 827 = .ok (.iadd, 1) := by decide +kernel
theorem dL_law_828 : decode cL_law 828 = .ok (.iaload, 1) := by decide +kernel
theorem dL_law_829 : decode cL_law 829 = .ok (.aload_n 0, 1) := by decide +kernel
theorem dL_law_830 : decode cL_law 830 = .ok (.iload_n 3, 1) := by decide +kernel
theorem dL_law_831 : decode cL_law 831 = .ok (.iconst 3, 1) := by decide +kernel
theorem dL_law_832 : decode cL_law 832 = .ok (.iadd, 1) := by decide +kernel
theorem dL_law_833 : decode cL_law 833 = .ok (.iaload, 1) := by decide +kernel
theorem dL_law_834 : decode cL_law 834 = .ok (.aload_n 0, 1) := by decide +kernel
theorem dL_law_835 : decode cL_law 835 = .ok (.iload_n 3, 1) := by decide +kernel
theorem dL_law_836 : decode cL_law 836 = .ok (.iconst 4, 1) := by decide +kernel
theorem dL_law_837 : decode cL_law 837 = .ok (.iadd, 1) := by decide +kernel
theorem dL_law_838 : decode cL_law 838 = .ok (.iaload, 1) := by decide +kernel
theorem dL_law_839 : decode cL_law 839 = .ok (.invokevirtual 101, 3) := by decide +kernel
theorem dL_law_842 : decode cL_law 842 = .ok (.if_icmp .eq 364, 3) := by decide +kernel
theorem dL_law_845 : decode cL_law 845 = .ok (.iconst 0, 1) := by decide +kernel
theorem dL_law_846 : decode cL_law 846 = .ok (.ireturn, 1) := by decide +kernel
theorem dL_law_847 : decode cL_law 847 = .ok (.aload_n 1, 1) := by decide +kernel
theorem dL_law_848 : decode cL_law 848 = .ok (.aload_n 0, 1) := by decide +kernel
theorem dL_law_849 : decode cL_law 849 = .ok (.iload_n 3, 1) := by decide +kernel
theorem dL_law_850 : decode cL_law 850 = .ok (.iconst 1, 1) := by decide +kernel
theorem dL_law_851 : decode cL_law 851 = .ok (.iadd, 1) := by decide +kernel
theorem dL_law_852 : decode cL_law 852 = .ok (.iaload, 1) := by decide +kernel
theorem dL_law_853 : decode cL_law 853 = .ok (.aload_n 0, 1) := by decide +kernel
theorem dL_law_854 : decode cL_law 854 = .ok (.iload_n 3, 1) := by decide +kernel
theorem dL_law_855 : decode cL_law 855 = .ok (.iconst 2, 1) := by decide +kernel
theorem dL_law_856 : decode cL_law 856 = .ok (.iadd, 1) := by decide +kernel
theorem dL_law_857 : decode cL_law 857 = .ok (.iaload, 1) := by decide +kernel
theorem dL_law_858 : decode cL_law 858 = .ok (.aload_n 0, 1) := by decide +kernel
theorem dL_law_859 : decode cL_law 859 = .ok (.iload_n 3, 1) := by decide +kernel
theorem dL_law_860 : decode cL_law 860 = .ok (.iconst 3, 1) := by decide +kernel
theorem dL_law_861 : decode cL_law 861 = .ok (.iadd, 1) := by decide +kernel
theorem dL_law_862 : decode cL_law 862 = .ok (.iaload, 1) := by decide +kernel
theorem dL_law_863 : decode cL_law 863 = .ok (.aload_n 0, 1) := by decide +kernel
theorem dL_law_864 : decode cL_law 864 = .ok (.iload_n 3, 1) := by decide +kernel
theorem dL_law_865 : decode cL_law 865 = .ok (.iconst 4, 1) := by decide +kernel
theorem dL_law_866 : decode cL_law 866 = .ok (.iadd, 1) := by decide +kernel
theorem dL_law_867 : decode cL_law 867 = .ok (.iaload, 1) := by decide +kernel
theorem dL_law_868 : decode cL_law 868 = .ok (.aload_n 0, 1) := by decide +kernel
theorem dL_law_869 : decode cL_law 869 = .ok (.iload_n 3, 1) := by decide +kernel
theorem dL_law_870 : decode cL_law 870 = .ok (.iconst 5, 1) := by decide +kernel
theorem dL_law_871 : decode cL_law 871 = .ok (.iadd, 1) := by decide +kernel
theorem dL_law_872 : decode cL_law 872 = .ok (.iaload, 1) := by decide +kernel
theorem dL_law_873 : decode cL_law 873 = .ok (.invokevirtual 102, 3) := by decide +kernel
theorem dL_law_876 : decode cL_law 876 = .ok (.aload_n 2, 1) := by decide +kernel
theorem dL_law_877 : decode cL_law 877 = .ok (.aload_n 0, 1) := by decide +kernel
theorem dL_law_878 : decode cL_law 878 = .ok (.iload_n 3, 1) := by decide +kernel
theorem dL_law_879 : decode cL_law 879 = .ok (.iconst 1, 1) := by decide +kernel
theorem dL_law_880 : decode cL_law 880 = .ok (.iadd, 1) := by decide +kernel
theorem dL_law_881 : decode cL_law 881 = .ok (.iaload, 1) := by decide +kernel
theorem dL_law_882 : decode cL_law 882 = .ok (.aload_n 0, 1) := by decide +kernel
theorem dL_law_883 : decode cL_law 883 = .ok (.iload_n 3, 1) := by decide +kernel
theorem dL_law_884 : decode cL_law 884 = .ok (.iconst 2, 1) := by decide +kernel
theorem dL_law_885 : decode cL_law 885 = .ok (.iadd, 1) := by decide +kernel
theorem dL_law_886 : decode cL_law 886 = .ok (.iaload, 1) := by decide +kernel
theorem dL_law_887 : decode cL_law 887 = .ok (.aload_n 0, 1) := by decide +kernel
theorem dL_law_888 : decode cL_law 888 = .ok (.iload_n 3, 1) := by decide +kernel
theorem dL_law_889 : decode cL_law 889 = .ok (.iconst 3, 1) := by decide +kernel
theorem dL_law_890 : decode cL_law 890 = .ok (.iadd, 1) := by decide +kernel
theorem dL_law_891 : decode cL_law 891 = .ok (.iaload, 1) := by decide +kernel
theorem dL_law_892 : decode cL_law 892 = .ok (.aload_n 0, 1) := by decide +kernel
theorem dL_law_893 : decode cL_law 893 = .ok (.iload_n 3, 1) := by decide +kernel
theorem dL_law_894 : decode cL_law 894 = .ok (.iconst 4, 1) := by decide +kernel
theorem dL_law_895 : decode cL_law 895 = .ok (.iadd, 1) := by decide +kernel
theorem dL_law_896 : decode cL_law 896 = .ok (.iaload, 1) := by decide +kernel
theorem dL_law_897 : decode cL_law 897 = .ok (.aload_n 0, 1) := by decide +kernel
theorem dL_law_898 : decode cL_law 898 = .ok (.iload_n 3, 1) := by decide +kernel
theorem dL_law_899 : decode cL_law 899 = .ok (.iconst 5, 1) := by decide +kernel
theorem dL_law_900 : decode cL_law 900 = .ok (.iadd, 1) := by decide +kernel
theorem dL_law_901 : decode cL_law 901 = .ok (.iaload, 1) := by decide +kernel
theorem dL_law_902 : decode cL_law 902 = .ok (.invokevirtual 106, 3) := by decide +kernel
theorem dL_law_905 : decode cL_law 905 = .ok (.if_icmp .eq 301, 3) := by decide +kernel
theorem dL_law_908 : decode cL_law 908 = .ok (.iconst 0, 1) := by decide +kernel
theorem dL_law_909 : decode cL_law 909 = .ok (.ireturn, 1) := by decide +kernel
theorem dL_law_910 : decode cL_law 910 = .ok (.aload_n 1, 1) := by decide +kernel
theorem dL_law_911 : decode cL_law 911 = .ok (.aload_n 0, 1) := by decide +kernel
theorem dL_law_912 : decode cL_law 912 = .ok (.iload_n 3, 1) := by decide +kernel
theorem dL_law_913 : decode cL_law 913 = .ok (.iconst 1, 1) := by decide +kernel
theorem dL_law_914 : decode cL_law 914 = .ok (.iadd, 1) := by decide +kernel
theorem dL_law_915 : decode cL_law 915 = .ok (.iaload, 1) := by decide +kernel
theorem dL_law_916 : decode cL_law 916 = .ok (.invokevirtual 107, 3) := by decide +kernel
theorem dL_law_919 : decode cL_law 919 = .ok (.aload_n 2, 1) := by decide +kernel
theorem dL_law_920 : decode cL_law 920 = .ok (.aload_n 0, 1) := by decide +kernel
theorem dL_law_921 : decode cL_law 921 = .ok (.iload_n 3, 1) := by decide +kernel
theorem dL_law_922 : decode cL_law 922 = .ok (.iconst 1, 1) := by decide +kernel
theorem dL_law_923 : decode cL_law 923 = .ok (.iadd, 1) := by decide +kernel
theorem dL_law_924 : decode cL_law 924 = .ok (.iaload, 1) := by decide +kernel
theorem dL_law_925 : decode cL_law 925 = .ok (.invokevirtual 110, 3) := by decide +kernel
theorem dL_law_928 : decode cL_law 928 = .ok (.if_icmp .eq 278, 3) := by decide +kernel
theorem dL_law_931 : decode cL_law 931 = .ok (.iconst 0, 1) := by decide +kernel
theorem dL_law_932 : decode cL_law 932 = .ok (.ireturn, 1) := by decide +kernel
theorem dL_law_933 : decode cL_law 933 = .ok (.aload_n 1, 1) := by decide +kernel
theorem dL_law_934 : decode cL_law 934 = .ok (.aload_n 0, 1) := by decide +kernel
theorem dL_law_935 : decode cL_law 935 = .ok (.iload_n 3, 1) := by decide +kernel
theorem dL_law_936 : decode cL_law 936 = .ok (.iconst 1, 1) := by decide +kernel
theorem dL_law_937 : decode cL_law 937 = .ok (.iadd, 1) := by decide +kernel
theorem dL_law_938 : decode cL_law 938 = .ok (.iaload, 1) := by decide +kernel
theorem dL_law_939 : decode cL_law 939 = .ok (.invokevirtual 111, 3) := by decide +kernel
theorem dL_law_942 : decode cL_law 942 = .ok (.aload_n 2, 1) := by decide +kernel
theorem dL_law_943 : decode cL_law 943 = .ok (.aload_n 0, 1) := by decide +kernel
theorem dL_law_944 : decode cL_law 944 = .ok (.iload_n 3, 1) := by decide +kernel
theorem dL_law_945 : decode cL_law 945 = .ok (.iconst 1, 1) := by decide +kernel
theorem dL_law_946 : decode cL_law 946 = .ok (.iadd, 1) := by decide +kernel
theorem dL_law_947 : decode cL_law 947 = .ok (.iaload, 1) := by decide +kernel
theorem dL_law_948 : decode cL_law 948 = .ok (.invokevirtual 114, 3) := by decide +kernel
theorem dL_law_951 : decode cL_law 951 = .ok (.if_icmp .eq 255, 3) := by decide +kernel
theorem dL_law_954 : decode cL_law 954 = .ok (.iconst 0, 1) := by decide +kernel
theorem dL_law_955 : decode cL_law 955 = .ok (.ireturn, 1) := by decide +kernel
theorem dL_law_956 : decode cL_law 956 = .ok (.aload_n 1, 1) := by decide +kernel
theorem dL_law_957 : decode cL_law 957 = .ok (.aload_n 0, 1) := by decide +kernel
theorem dL_law_958 : decode cL_law 958 = .ok (.iload_n 3, 1) := by decide +kernel
theorem dL_law_959 : decode cL_law 959 = .ok (.iconst 1, 1) := by decide +kernel
theorem dL_law_960 : decode cL_law 960 = .ok (.iadd, 1) := by decide +kernel
theorem dL_law_961 : decode cL_law 961 = .ok (.iaload, 1) := by decide +kernel
theorem dL_law_962 : decode cL_law 962 = .ok (.aload_n 0, 1) := by decide +kernel
theorem dL_law_963 : decode cL_law 963 = .ok (.iload_n 3, 1) := by decide +kernel
theorem dL_law_964 : decode cL_law 964 = .ok (.iconst 2, 1) := by decide +kernel
theorem dL_law_965 : decode cL_law 965 = .ok (.iadd, 1) := by decide +kernel
theorem dL_law_966 : decode cL_law 966 = .ok (.iaload, 1) := by decide +kernel
theorem dL_law_967 : decode cL_law 967 = .ok (.aload_n 0, 1) := by decide +kernel
theorem dL_law_968 : decode cL_law 968 = .ok (.iload_n 3, 1) := by decide +kernel
theorem dL_law_969 : decode cL_law 969 = .ok (.iconst 3, 1) := by decide +kernel
theorem dL_law_970 : decode cL_law 970 = .ok (.iadd, 1) := by decide +kernel
theorem dL_law_971 : decode cL_law 971 = .ok (.iaload, 1) := by decide +kernel
theorem dL_law_972 : decode cL_law 972 = .ok (.aload_n 0, 1) := by decide +kernel
theorem dL_law_973 : decode cL_law 973 = .ok (.iload_n 3, 1) := by decide +kernel
theorem dL_law_974 : decode cL_law 974 = .ok (.iconst 4, 1) := by decide +kernel
theorem dL_law_975 : decode cL_law 975 = .ok (.iadd, 1) := by decide +kernel
theorem dL_law_976 : decode cL_law 976 = .ok (.iaload, 1) := by decide +kernel
theorem dL_law_977 : decode cL_law 977 = .ok (.invokevirtual 115, 3) := by decide +kernel
theorem dL_law_980 : decode cL_law 980 = .ok (.aload_n 2, 1) := by decide +kernel
theorem dL_law_981 : decode cL_law 981 = .ok (.aload_n 0, 1) := by decide +kernel
theorem dL_law_982 : decode cL_law 982 = .ok (.iload_n 3, 1) := by decide +kernel
theorem dL_law_983 : decode cL_law 983 = .ok (.iconst 1, 1) := by decide +kernel
theorem dL_law_984 : decode cL_law 984 = .ok (.iadd, 1) := by decide +kernel
theorem dL_law_985 : decode cL_law 985 = .ok (.iaload, 1) := by decide +kernel
theorem dL_law_986 : decode cL_law 986 = .ok (.aload_n 0, 1) := by decide +kernel
theorem dL_law_987 : decode cL_law 987 = .ok (.iload_n 3, 1) := by decide +kernel
theorem dL_law_988 : decode cL_law 988 = .ok (.iconst 2, 1) := by decide +kernel
theorem dL_law_989 : decode cL_law 989 = .ok (.iadd, 1) := by decide +kernel
theorem dL_law_990 : decode cL_law 990 = .ok (.iaload, 1) := by decide +kernel
theorem dL_law_991 : decode cL_law 991 = .ok (.aload_n 0, 1) := by decide +kernel
theorem dL_law_992 : decode cL_law 992 = .ok (.iload_n 3, 1) := by decide +kernel
theorem dL_law_993 : decode cL_law 993 = .ok (.iconst 3, 1) := by decide +kernel
theorem dL_law_994 : decode cL_law 994 = .ok (.iadd, 1) := by decide +kernel
theorem dL_law_995 : decode cL_law 995 = .ok (.iaload, 1) := by decide +kernel
theorem dL_law_996 : decode cL_law 996 = .ok (.aload_n 0, 1) := by decide +kernel
theorem dL_law_997 : decode cL_law 997 = .ok (.iload_n 3, 1) := by decide +kernel
theorem dL_law_998 : decode cL_law 998 = .ok (.iconst 4, 1) := by decide +kernel
theorem dL_law_999 : decode cL_law 999 = .ok (.iadd, 1) := by decide +kernel
theorem dL_law_1000 : decode cL_law 1000 = .ok (.iaload, 1) := by decide +kernel
theorem dL_law_1001 : decode cL_law 1001 = .ok (.invokevirtual 118, 3) := by decide +kernel
theorem dL_law_1004 : decode cL_law 1004 = .ok (.if_icmp .eq 202, 3) := by decide +kernel
theorem dL_law_1007 : decode cL_law 1007 = .ok (.iconst 0, 1) := by decide +kernel
theorem dL_law_1008 : decode cL_law 1008 = .ok (.ireturn, 1) := by decide +kernel
theorem dL_law_1009 : decode cL_law 1009 = .ok (.aload_n 1, 1) := by decide +kernel
theorem dL_law_1010 : decode cL_law 1010 = .ok (.invokevirtual 119, 3) := by decide +kernel
theorem dL_law_1013 : decode cL_law 1013 = .ok (.aload_n 2, 1) := by decide +kernel
theorem dL_law_1014 : decode cL_law 1014 = .ok (.invokevirtual 122, 3) := by decide +kernel
theorem dL_law_1017 : decode cL_law 1017 = .ok (.if_icmp .eq 189, 3) := by decide +kernel
theorem dL_law_1020 : decode cL_law 1020 = .ok (.iconst 0, 1) := by decide +kernel
theorem dL_law_1021 : decode cL_law 1021 = .ok (.ireturn, 1) := by decide +kernel
theorem dL_law_1022 : decode cL_law 1022 = .ok (.aload_n 1, 1) := by decide +kernel
theorem dL_law_1023 : decode cL_law 1023 = .ok (.aload_n 0, 1) := by decide +kernel
theorem dL_law_1024 : decode cL_law 1024 = .ok (.iload_n 3, 1) := by decide +kernel
theorem dL_law_1025 : decode cL_law 1025 = .ok (.iconst 1, 1) := by decide +kernel
theorem dL_law_1026 : decode cL_law 1026 = .ok (.iadd, 1) := by decide +kernel
theorem dL_law_1027 : decode cL_law 1027 = .ok (.iaload, 1) := by decide +kernel
theorem dL_law_1028 : decode cL_law 1028 = .ok (.invokevirtual 123, 3) := by decide +kernel
theorem dL_law_1031 : decode cL_law 1031 = .ok (.aload_n 2, 1) := by decide +kernel
theorem dL_law_1032 : decode cL_law 1032 = .ok (.aload_n 0, 1) := by decide +kernel
theorem dL_law_1033 : decode cL_law 1033 = .ok (.iload_n 3, 1) := by decide +kernel
theorem dL_law_1034 : decode cL_law 1034 = .ok (.iconst 1, 1) := by decide +kernel
theorem dL_law_1035 : decode cL_law 1035 = .ok (.iadd, 1) := by decide +kernel
theorem dL_law_1036 : decode cL_law 1036 = .ok (.iaload, 1) := by decide +kernel
theorem dL_law_1037 : decode cL_law 1037 = .ok (.invokevirtual 126, 3) := by decide +kernel
theorem dL_law_1040 : decode cL_law 1040 = .ok (.if_icmp .eq 166, 3) := by decide +kernel
theorem dL_law_1043 : decode cL_law 1043 = .ok (.iconst 0, 1) := by decide +kernel
theorem dL_law_1044 : decode cL_law 1044 = .ok (.ireturn, 1) := by decide +kernel
theorem dL_law_1045 : decode cL_law 1045 = .ok (.aload_n 1, 1) := by decide +kernel
theorem dL_law_1046 : decode cL_law 1046 = .ok (.aload_n 0, 1) := by decide +kernel
theorem dL_law_1047 : decode cL_law 1047 = .ok (.iload_n 3, 1) := by decide +kernel
theorem dL_law_1048 : decode cL_law 1048 = .ok (.iconst 1, 1) := by decide +kernel
theorem dL_law_1049 : decode cL_law 1049 = .ok (.iadd, 1) := by decide +kernel
theorem dL_law_1050 : decode cL_law 1050 = .ok (.iaload, 1) := by decide +kernel
theorem dL_law_1051 : decode cL_law 1051 = .ok (.aload_n 0, 1) := by decide +kernel
theorem dL_law_1052 : decode cL_law 1052 = .ok (.iload_n 3, 1) := by decide +kernel
theorem dL_law_1053 : decode cL_law 1053 = .ok (.iconst 2, 1) := by decide +kernel
theorem dL_law_1054 : decode cL_law 1054 = .ok (.iadd, 1) := by decide +kernel
theorem dL_law_1055 : decode cL_law 1055 = .ok (.iaload, 1) := by decide +kernel
theorem dL_law_1056 : decode cL_law 1056 = .ok (.invokevirtual 127, 3) := by decide +kernel
theorem dL_law_1059 : decode cL_law 1059 = .ok (.aload_n 2, 1) := by decide +kernel
theorem dL_law_1060 : decode cL_law 1060 = .ok (.aload_n 0, 1) := by decide +kernel
theorem dL_law_1061 : decode cL_law 1061 = .ok (.iload_n 3, 1) := by decide +kernel
theorem dL_law_1062 : decode cL_law 1062 = .ok (.iconst 1, 1) := by decide +kernel
theorem dL_law_1063 : decode cL_law 1063 = .ok (.iadd, 1) := by decide +kernel
theorem dL_law_1064 : decode cL_law 1064 = .ok (.iaload, 1) := by decide +kernel
theorem dL_law_1065 : decode cL_law 1065 = .ok (.aload_n 0, 1) := by decide +kernel
theorem dL_law_1066 : decode cL_law 1066 = .ok (.iload_n 3, 1) := by decide +kernel
theorem dL_law_1067 : decode cL_law 1067 = .ok (.iconst 2, 1) := by decide +kernel
theorem dL_law_1068 : decode cL_law 1068 = .ok (.iadd, 1) := by decide +kernel
theorem dL_law_1069 : decode cL_law 1069 = .ok (.iaload, 1) := by decide +kernel
theorem dL_law_1070 : decode cL_law 1070 = .ok (.invokevirtual 130, 3) := by decide +kernel
theorem dL_law_1073 : decode cL_law 1073 = .ok (.if_icmp .eq 133, 3) := by decide +kernel
theorem dL_law_1076 : decode cL_law 1076 = .ok (.iconst 0, 1) := by decide +kernel
theorem dL_law_1077 : decode cL_law 1077 = .ok (.ireturn, 1) := by decide +kernel
theorem dL_law_1078 : decode cL_law 1078 = .ok (.aload_n 1, 1) := by decide +kernel
theorem dL_law_1079 : decode cL_law 1079 = .ok (.aload_n 0, 1) := by decide +kernel
theorem dL_law_1080 : decode cL_law 1080 = .ok (.iload_n 3, 1) := by decide +kernel
theorem dL_law_1081 : decode cL_law 1081 = .ok (.iconst 1, 1) := by decide +kernel
theorem dL_law_1082 : decode cL_law 1082 = .ok (.iadd, 1) := by decide +kernel
theorem dL_law_1083 : decode cL_law 1083 = .ok (.iaload, 1) := by decide +kernel
theorem dL_law_1084 : decode cL_law 1084 = .ok (.aload_n 0, 1) := by decide +kernel
theorem dL_law_1085 : decode cL_law 1085 = .ok (.iload_n 3, 1) := by decide +kernel
theorem dL_law_1086 : decode cL_law 1086 = .ok (.iconst 2, 1) := by decide +kernel
theorem dL_law_1087 : decode cL_law 1087 = .ok (.iadd, 1) := by decide +kernel
theorem dL_law_1088 : decode cL_law 1088 = .ok (.iaload, 1) := by decide +kernel
theorem dL_law_1089 : decode cL_law 1089 = .ok (.invokevirtual 131, 3) := by decide +kernel
theorem dL_law_1092 : decode cL_law 1092 = .ok (.aload_n 2, 1) := by decide +kernel
theorem dL_law_1093 : decode cL_law 1093 = .ok (.aload_n 0, 1) := by decide +kernel
theorem dL_law_1094 : decode cL_law 1094 = .ok (.iload_n 3, 1) := by decide +kernel
theorem dL_law_1095 : decode cL_law 1095 = .ok (.iconst 1, 1) := by decide +kernel
theorem dL_law_1096 : decode cL_law 1096 = .ok (.iadd, 1) := by decide +kernel
theorem dL_law_1097 : decode cL_law 1097 = .ok (.iaload, 1) := by decide +kernel
theorem dL_law_1098 : decode cL_law 1098 = .ok (.aload_n 0, 1) := by decide +kernel
theorem dL_law_1099 : decode cL_law 1099 = .ok (.iload_n 3, 1) := by decide +kernel
theorem dL_law_1100 : decode cL_law 1100 = .ok (.iconst 2, 1) := by decide +kernel
theorem dL_law_1101 : decode cL_law 1101 = .ok (.iadd, 1) := by decide +kernel
theorem dL_law_1102 : decode cL_law 1102 = .ok (.iaload, 1) := by decide +kernel
theorem dL_law_1103 : decode cL_law 1103 = .ok (.invokevirtual 134, 3) := by decide +kernel
theorem dL_law_1106 : decode cL_law 1106 = .ok (.if_icmp .eq 100, 3) := by decide +kernel
theorem dL_law_1109 : decode cL_law 1109 = .ok (.iconst 0, 1) := by decide +kernel
theorem dL_law_1110 : decode cL_law 1110 = .ok (.ireturn, 1) := by decide +kernel
theorem dL_law_1111 : decode cL_law 1111 = .ok (.aload_n 1, 1) := by decide +kernel
theorem dL_law_1112 : decode cL_law 1112 = .ok (.invokevirtual 135, 3) := by decide +kernel
theorem dL_law_1115 : decode cL_law 1115 = .ok (.aload_n 2, 1) := by decide +kernel
theorem dL_law_1116 : decode cL_law 1116 = .ok (.invokevirtual 138, 3) := by decide +kernel
theorem dL_law_1119 : decode cL_law 1119 = .ok (.if_icmp .eq 87, 3) := by decide +kernel
theorem dL_law_1122 : decode cL_law 1122 = .ok (.iconst 0, 1) := by decide +kernel
theorem dL_law_1123 : decode cL_law 1123 = .ok (.ireturn, 1) := by decide +kernel
theorem dL_law_1124 : decode cL_law 1124 = .ok (.aload_n 1, 1) := by decide +kernel
theorem dL_law_1125 : decode cL_law 1125 = .ok (.invokevirtual 139, 3) := by decide +kernel
theorem dL_law_1128 : decode cL_law 1128 = .ok (.aload_n 2, 1) := by decide +kernel
theorem dL_law_1129 : decode cL_law 1129 = .ok (.invokevirtual 142, 3) := by decide +kernel
theorem dL_law_1132 : decode cL_law 1132 = .ok (.if_icmp .eq 74, 3) := by decide +kernel
theorem dL_law_1135 : decode cL_law 1135 = .ok (.iconst 0, 1) := by decide +kernel
theorem dL_law_1136 : decode cL_law 1136 = .ok (.ireturn, 1) := by decide +kernel
theorem dL_law_1137 : decode cL_law 1137 = .ok (.aload_n 1, 1) := by decide +kernel
theorem dL_law_1138 : decode cL_law 1138 = .ok (.aload_n 0, 1) := by decide +kernel
theorem dL_law_1139 : decode cL_law 1139 = .ok (.iload_n 3, 1) := by decide +kernel
theorem dL_law_1140 : decode cL_law 1140 = .ok (.iconst 1, 1) := by decide +kernel
theorem dL_law_1141 : decode cL_law 1141 = .ok (.iadd, 1) := by decide +kernel
theorem dL_law_1142 : decode cL_law 1142 = .ok (.iaload, 1) := by decide +kernel
theorem dL_law_1143 : decode cL_law 1143 = .ok (.invokevirtual 143, 3) := by decide +kernel
theorem dL_law_1146 : decode cL_law 1146 = .ok (.aload_n 2, 1) := by decide +kernel
theorem dL_law_1147 : decode cL_law 1147 = .ok (.aload_n 0, 1) := by decide +kernel
theorem dL_law_1148 : decode cL_law 1148 = .ok (.iload_n 3, 1) := by decide +kernel
theorem dL_law_1149 : decode cL_law 1149 = .ok (.iconst 1, 1) := by decide +kernel
theorem dL_law_1150 : decode cL_law 1150 = .ok (.iadd, 1) := by decide +kernel
theorem dL_law_1151 : decode cL_law 1151 = .ok (.iaload, 1) := by decide +kernel
theorem dL_law_1152 : decode cL_law 1152 = .ok (.invokevirtual 146, 3) := by decide +kernel
theorem dL_law_1155 : decode cL_law 1155 = .ok (.if_icmp .eq 51, 3) := by decide +kernel
theorem dL_law_1158 : decode cL_law 1158 = .ok (.iconst 0, 1) := by decide +kernel
theorem dL_law_1159 : decode cL_law 1159 = .ok (.ireturn, 1) := by decide +kernel
theorem dL_law_1160 : decode cL_law 1160 = .ok (.aload_n 1, 1) := by decide +kernel
theorem dL_law_1161 : decode cL_law 1161 = .ok (.aload_n 0, 1) := by decide +kernel
theorem dL_law_1162 : decode cL_law 1162 = .ok (.iload_n 3, 1) := by decide +kernel
theorem dL_law_1163 : decode cL_law 1163 = .ok (.iconst 1, 1) := by decide +kernel
theorem dL_law_1164 : decode cL_law 1164 = .ok (.iadd, 1) := by decide +kernel
theorem dL_law_1165 : decode cL_law 1165 = .ok (.iaload, 1) := by decide +kernel
theorem dL_law_1166 : decode cL_law 1166 = .ok (.invokevirtual 147, 3) := by decide +kernel
theorem dL_law_1169 : decode cL_law 1169 = .ok (.aload_n 2, 1) := by decide +kernel
theorem dL_law_1170 : decode cL_law 1170 = .ok (.aload_n 0, 1) := by decide +kernel
theorem dL_law_1171 : decode cL_law 1171 = .ok (.iload_n 3, 1) := by decide +kernel
theorem dL_law_1172 : decode cL_law 1172 = .ok (.iconst 1, 1) := by decide +kernel
theorem dL_law_1173 : decode cL_law 1173 = .ok (.iadd, 1) := by decide +kernel
theorem dL_law_1174 : decode cL_law 1174 = .ok (.iaload, 1) := by decide +kernel
theorem dL_law_1175 : decode cL_law 1175 = .ok (.invokevirtual 150, 3) := by decide +kernel
theorem dL_law_1178 : decode cL_law 1178 = .ok (.if_icmp .eq 28, 3) := by decide +kernel
theorem dL_law_1181 : decode cL_law 1181 = .ok (.iconst 0, 1) := by decide +kernel
theorem dL_law_1182 : decode cL_law 1182 = .ok (.ireturn, 1) := by decide +kernel
theorem dL_law_1183 : decode cL_law 1183 = .ok (.aload_n 1, 1) := by decide +kernel
theorem dL_law_1184 : decode cL_law 1184 = .ok (.aload_n 0, 1) := by decide +kernel
theorem dL_law_1185 : decode cL_law 1185 = .ok (.iload_n 3, 1) := by decide +kernel
theorem dL_law_1186 : decode cL_law 1186 = .ok (.iconst 1, 1) := by decide +kernel
theorem dL_law_1187 : decode cL_law 1187 = .ok (.iadd, 1) := by decide +kernel
theorem dL_law_1188 : decode cL_law 1188 = .ok (.iaload, 1) := by decide +kernel
theorem dL_law_1189 : decode cL_law 1189 = .ok (.invokevirtual 151, 3) := by decide +kernel
theorem dL_law_1192 : decode cL_law 1192 = .ok (.aload_n 2, 1) := by decide +kernel
theorem dL_law_1193 : decode cL_law 1193 = .ok (.aload_n 0, 1) := by decide +kernel
theorem dL_law_1194 : decode cL_law 1194 = .ok (.iload_n 3, 1) := by decide +kernel
theorem dL_law_1195 : decode cL_law 1195 = .ok (.iconst 1, 1) := by decide +kernel
theorem dL_law_1196 : decode cL_law 1196 = .ok (.iadd, 1) := by decide +kernel
theorem dL_law_1197 : decode cL_law 1197 = .ok (.iaload, 1) := by decide +kernel
theorem dL_law_1198 : decode cL_law 1198 = .ok (.invokevirtual 154, 3) := by decide +kernel
theorem dL_law_1201 : decode cL_law 1201 = .ok (.if_icmp .eq 5, 3) := by decide +kernel
theorem dL_law_1204 : decode cL_law 1204 = .ok (.iconst 0, 1) := by decide +kernel
theorem dL_law_1205 : decode cL_law 1205 = .ok (.ireturn, 1) := by decide +kernel
theorem dL_law_1206 : decode cL_law 1206 = .ok (.iinc 3 6, 3) := by decide +kernel
theorem dL_law_1209 : decode cL_law 1209 = .ok (.goto (-1191), 3) := by decide +kernel
theorem dL_law_1212 : decode cL_law 1212 = .ok (.iconst 1, 1) := by decide +kernel
theorem dL_law_1213 : decode cL_law 1213 = .ok (.ireturn, 1) := by decide +kernel
end
section
/-! ===== AX: one judgement for all methods. A heap is a function from numbers to cells (number k stands at the address B + k), locals and stack are lists of values with such numbers; the machine's own words are hidden. ===== -/
abbrev ax_M : Type := MethodName × ByteArray × Nat × Option FieldType
/-- classes and slots, base, the script's address, its length, its ints, array classes -/
abbrev ax_G : Type := va_G × Nat × Nat × Nat × (Nat → Int32) × (Nat → ClassId)
abbrev ax_gD (G : ax_G) : va_G := G.1
abbrev ax_gB (G : ax_G) : Nat := G.2.1
abbrev ax_gb (G : ax_G) : Nat := G.2.2.1
abbrev ax_gL (G : ax_G) : Nat := G.2.2.2.1
abbrev ax_gX (G : ax_G) : Nat → Int32 := G.2.2.2.2.1
abbrev ax_gA (G : ax_G) : Nat → ClassId := G.2.2.2.2.2
/-- a cell: an array of ints (0) or booleans (1); an array of People; an object -/
abbrev ax_C : Type := (Nat × Nat × (Nat → Int32)) ⊕ ((Nat × (Nat → Option Nat)) ⊕ (Nat × List Value))
abbrev ax_H : Type := Nat → ax_C
/-- a value of the machine; a double stands for the script -/
def ax_v (G : ax_G) : Value → Value
  | .ref k => .ref (ax_gB G + k)
  | .double _ => .ref (ax_gb G)
  | .int x => .int x
  | .long x => .long x
  | .null => .null
  | .float x => .float x
  | .retAddr x => .retAddr x
def ax_e (G : ax_G) : ax_C → va_E
  | .inl q => .inl (ax_gA G q.1, q.2.1, .inl q.2.2)
  | .inr (.inl q) => .inl (ax_gA G 2, q.1, .inr (.inr (.inr (.inr (fun j => (q.2 j).map (fun a => ax_gB G + a))))))
  | .inr (.inr q) => .inr (q.1, q.2.map (ax_v G))
def ax_w (G : ax_G) (n : Nat) (h : ax_H) : va_W := (List.range n).map (fun k => (ax_gB G + k, ax_e G (h k)))
def ax_R (G : ax_G) (n : Nat) (h : ax_H) (H : Heap) : Prop := va_P (ax_gD G) vwCl (ax_w G n h) H ∧ H.size = ax_gB G + n
abbrev ax_A (G : ax_G) : Nat → Prop := fun q => ax_gB G ≤ q
theorem ax_w_get {G : ax_G} {n : Nat} {h : ax_H} {k : Nat} (hk : k < n) : (ax_w G n h)[k]? = some (ax_gB G + k, ax_e G (h k)) := by
  simp [ax_w, hk]
theorem ax_w_len {G : ax_G} {n : Nat} {h : ax_H} : (ax_w G n h).length = n := by simp [ax_w]
theorem ax_w_D {G : ax_G} {n : Nat} {h : ax_H} : va_D (ax_A G) (ax_w G n h) := by
  have key : ∀ (k : Nat) (q : Nat × va_E), (ax_w G n h)[k]? = some q → q.1 = ax_gB G + k := by
    intro k q hk
    have hl : k < n := by
      have := (List.getElem?_eq_some_iff.mp hk).1
      rwa [ax_w_len] at this
    rw [ax_w_get hl] at hk
    cases hk
    rfl
  refine ⟨fun i j p q hi hj hpq => ?_, fun k q hk => ?_⟩
  · have h1 := key i p hi
    have h2 := key j q hj
    omega
  · show ax_gB G ≤ q.1
    have h1 := key k q hk
    omega
/-- one cell is another -/
theorem ax_w_set {G : ax_G} {n : Nat} {h : ax_H} {k : Nat} {c : ax_C} (hk : k < n) : (ax_w G n h).set k (ax_gB G + k, ax_e G c) = ax_w G n (va_up h k c) := by
  apply List.ext_getElem?
  intro j
  by_cases hj : j < n
  · by_cases hjk : j = k
    · subst hjk
      rw [List.getElem?_set_self (by rw [ax_w_len]; exact hk), ax_w_get hj]
      simp [va_up]
    · rw [List.getElem?_set_ne (fun e => hjk e.symm), ax_w_get hj, ax_w_get hj]
      simp [va_up, hjk]
  · rw [List.getElem?_eq_none (by rw [List.length_set, ax_w_len]; omega), List.getElem?_eq_none (by rw [ax_w_len]; omega)]
theorem ax_R.set {G : ax_G} {n : Nat} {h : ax_H} {k : Nat} {c : ax_C} {H H1 : Heap} (hk : k < n) (hz : H1.size = H.size) (hR : ax_R G n h H) (h1 : va_P (ax_gD G) vwCl ((ax_w G n h).set k (ax_gB G + k, ax_e G c)) H1) : ax_R G n (va_up h k c) H1 := by
  rw [ax_w_set hk] at h1
  exact ⟨h1, hz.trans hR.2⟩
/-- the words of the tables -/
def ax_ok : Cond → Bool
  | .fieldLinkNest _ _ _ _ _ _ => true
  | .methodLinkNest _ _ _ _ => true
  | w => w.onTables && w.keeps
theorem ax_ok_tab {w : Cond} (h : ax_ok w = true) : w.onTables = true := by
  unfold ax_ok at h
  split at h
  · rfl
  · rfl
  · simp only [Bool.and_eq_true] at h
    exact h.1
def ax_T (U : State) : Prop := ∀ w ∈ lw_tbl, ax_ok w = true → w.before #[] U = true
theorem ax_T.use {U : State} (h : ax_T U) {w : Cond} (hm : w ∈ lw_tbl) (ho : ax_ok w = true) {args : Array Value} : w.before args U = true := va_tabs (ax_ok_tab ho) rfl (h w hm ho)
theorem ax_T.warm {s U : State} (hW : s.WarmedH U.vm) (h : ax_T s) : ax_T U := by
  intro w hm ho
  have h1 := h w hm ho
  unfold ax_ok at ho
  split at ho
  · exact va_Nw.warmF hW h1
  · exact va_Nw.warmM hW h1
  · exact word_at hW (Or.inl ho) h1
theorem ax_T.same {u U : State} (hv : u.vm = U.vm) (h : ax_T u) : ax_T U := fun w hm ho => va_tabs (ax_ok_tab ho) hv (h w hm ho)
abbrev ax_tys (G : ax_G) : List (ClassId × FieldType) := [(ax_gA G 0, .int), (ax_gA G 1, .boolean), (ax_gA G 2, .object RX5)]
def ax_K (G : ax_G) (U : State) : Prop := ax_T U ∧ va_K (ax_gD G) vwCl (ax_tys G) U ∧ ((Cond.arrayClass .int).before #[] U = true ∧ (Cond.arrayClass .boolean).before #[] U = true ∧ va_AO RX5 U) ∧ va_X (ax_gb G) (ax_gL G) (ax_gX G) U U.heap ∧ ax_gb G < ax_gB G ∧ ax_gB G ≤ U.heap.size
/-- the same of a later state with another heap, where what stands below the base is as it was -/
theorem ax_K.to {G : ax_G} {s U : State} {locs : List Loc} (h : ax_K G s) (hW : s.WarmedH U.vm) (hS : va_S (ax_A G) s.heap U.heap locs) : ax_K G U := by
  obtain ⟨h1, h2, ⟨h3, h4, h5⟩, h6, h7, h8⟩ := h
  refine ⟨h1.warm hW, va_K.moved hW.alike h2, ⟨word_at hW (Or.inr ⟨_, rfl⟩) h3, word_at hW (Or.inr ⟨_, rfl⟩) h4, va_AO.moved hW.alike h5⟩, ?_, h7, Nat.le_trans h8 hS.1⟩
  exact va_X.moved hW.alike (h6.kept (hS.2.1 _ (Nat.lt_of_lt_of_le h7 h8) (Nat.not_le.mpr h7)))
theorem ax_K.blind {G : ax_G} {U : State} (g : JFrame) (mk : MethodId) (a : Array Value) (h : ax_K G U) : ax_K G (U.calling g mk a) := by
  obtain ⟨h1, h2, ⟨h3, h4, h5⟩, h6, h7, h8⟩ := h
  exact ⟨ax_T.same (u := U) (U := U.calling g mk a) rfl h1, va_K.moved (u := U) (U := U.calling g mk a) (Vm.Alike.refl U.vm) h2, ⟨h3, h4, va_AO.moved (u := U) (U := U.calling g mk a) (Vm.Alike.refl U.vm) h5⟩, va_X.moved (u := U) (U := U.calling g mk a) (Vm.Alike.refl U.vm) h6, h7, h8⟩
/-- the locals -/
def ax_nf : Value → Bool
  | .float _ => false
  | _ => true
def ax_sm : Value → Bool
  | .long _ => false
  | _ => true
def ax_L (G : ax_G) (la : Array Slot) (nL : Nat) (ls : List Value) : Prop := la.size = nL ∧ lv_wf la ∧ ∀ (k : Nat) (v : Value), ls[k]? = some v → ax_nf v = true → la[k]? = some (.val (ax_v G v))
/-- the machine and the method's own facts -/
def ax_Ct (G : ax_G) (M : ax_M) (p : Program) (s : State) (m : MethodId) (meth : Method) (c : Code) : Prop :=
  p.tables.exec = Jvm.exec ∧ c.code = M.2.1 ∧ c.maxLocals = M.2.2.1 ∧ meth.sig.returnType = M.2.2.2 ∧ s.vm.findClass M.1.cls = some m.cls ∧ meth.locks = false ∧ meth.name = M.1.name ∧ ax_K G s
def ax_Qc (G : ax_G) (n' : Nat) (Q : Option Value → ax_H → Prop) : Array Value → State → Outcome → State → Prop := fun _ st o t =>
  (∃ (r : Option Value) (h' : ax_H), o = .returned (r.map (ax_v G)) ∧ Q r h' ∧ ax_R G n' h' t.heap) ∧ va_F (ax_A G) st t
def AX (G : ax_G) (l : Launch) (M : ax_M) (d pc : Nat) (ls st : List Value) (n z : Nat) (h : ax_H) (n' z' : Nat) (Q : Option Value → ax_H → Prop) : Prop :=
  ∀ (p : Program) (e : Env) (s : State) (m : MethodId) (args : Array Value) (below : List Frame) (meth : Method) (c : Code) (R : Room) (H : Heap) (locs : List Loc) (cells slots : Nat) (la : Array Slot),
    ax_Ct G M p s m meth c → d ≤ R.frames → 35 * d ≤ R.locals → n ≤ n' → z ≤ z' → cells + (n' - n) ≤ R.cells → slots + (z' - z) ≤ R.slots → ax_R G n h H → va_S (ax_A G) s.heap H locs → ax_L G la M.2.2.1 ls →
    W p l e R s m args below meth c H locs cells slots (MQ below (ax_Qc G n' Q) args s (cells + (n' - n)) (slots + (z' - z)) (ax_A G)) (F0 m pc la (st.map (ax_v G)))
/-- a method's contract: with these arguments and this heap it comes back, and Q of answer and heap -/
def AC (G : ax_G) (l : Launch) (d : Nat) (M : ax_M) (as : List Value) (n z : Nat) (h : ax_H) (n' z' : Nat) (Q : Option Value → ax_H → Prop) : Prop :=
  (n ≤ n' ∧ z ≤ z') ∧ Met l M.1 [Cond.code M.1 M.2.1 M.2.2.1 M.2.2.2] { frames := d, cells := n' - n, slots := z' - z, locals := 35 * d }
    (fun a U => a = (as.map (ax_v G)).toArray ∧ ax_R G n h U.heap ∧ ax_K G U) (ax_Qc G n' Q) (n' - n) (z' - z) (ax_A G)
section AXR
variable {G : ax_G} {l : Launch} {M : ax_M} {d pc : Nat} {ls st : List Value} {n z : Nat} {h : ax_H} {n' z' : Nat} {Q : Option Value → ax_H → Prop}
theorem ax_go {pc' : Nat} {st' : List Value}
    (hstep : ∀ (p : Program) (e : Env) (s : State) (m : MethodId) (args : Array Value) (below : List Frame) (meth : Method) (c : Code) (R : Room) (H : Heap) (locs : List Loc) (cells slots : Nat) (la : Array Slot) (Q' : State → Prop),
      p.tables.exec = Jvm.exec → c.code = M.2.1 → ax_L G la M.2.2.1 ls → s.vm.findClass M.1.cls = some m.cls → ax_K G s → va_S (ax_A G) s.heap H locs → ax_R G n h H →
      W p l e R s m args below meth c H locs cells slots Q' (F0 m pc' la (st'.map (ax_v G))) → W p l e R s m args below meth c H locs cells slots Q' (F0 m pc la (st.map (ax_v G))))
    (k : AX G l M d pc' ls st' n z h n' z' Q) : AX G l M d pc ls st n z h n' z' Q := by
  intro p e s m args below meth c R H locs cells slots la C hd hlo hn hz hc hs hR hS hL
  exact hstep p e s m args below meth c R H locs cells slots la _ C.1 C.2.1 hL C.2.2.2.2.1 C.2.2.2.2.2.2.2 hS hR (k p e s m args below meth c R H locs cells slots la C hd hlo hn hz hc hs hR hS hL)
/-- a branch -/
theorem ax_br {pc1 pc2 : Nat} {st' : List Value} {c1 c2 : Prop}
    (hstep : ∀ (p : Program) (e : Env) (s : State) (m : MethodId) (args : Array Value) (below : List Frame) (meth : Method) (c : Code) (R : Room) (H : Heap) (locs : List Loc) (cells slots : Nat) (la : Array Slot) (Q' : State → Prop),
      p.tables.exec = Jvm.exec → c.code = M.2.1 →
      (c1 → W p l e R s m args below meth c H locs cells slots Q' (F0 m pc1 la (st'.map (ax_v G)))) → (c2 → W p l e R s m args below meth c H locs cells slots Q' (F0 m pc2 la (st'.map (ax_v G)))) → W p l e R s m args below meth c H locs cells slots Q' (F0 m pc la (st.map (ax_v G))))
    (k1 : c1 → AX G l M d pc1 ls st' n z h n' z' Q) (k2 : c2 → AX G l M d pc2 ls st' n z h n' z' Q) : AX G l M d pc ls st n z h n' z' Q := by
  intro p e s m args below meth c R H locs cells slots la C hd hlo hn hz hc hs hR hS hL
  exact hstep p e s m args below meth c R H locs cells slots la _ C.1 C.2.1 (fun q => k1 q p e s m args below meth c R H locs cells slots la C hd hlo hn hz hc hs hR hS hL) (fun q => k2 q p e s m args below meth c R H locs cells slots la C hd hlo hn hz hc hs hR hS hL)
end AXR
end
section
/-! ===== rows of AX that touch stack and locals alone ===== -/
theorem ax_cat1 {G : ax_G} {v : Value} (h : ax_sm v = true) : (ax_v G v).category = 1 := by
  cases v <;> first | rfl | (simp [ax_sm] at h)
def ax_p (G : ax_G) (ls : List Value) : List (Nat × Value) := (ls.zipIdx.filter (fun q => ax_nf q.1)).map (fun q => (q.2, ax_v G q.1))
theorem ax_p_mem {G : ax_G} {ls : List Value} {k : Nat} {v : Value} (h : ls[k]? = some v) (hn : ax_nf v = true) : (k, ax_v G v) ∈ ax_p G ls := by
  unfold ax_p
  refine List.mem_map.mpr ⟨(v, k), List.mem_filter.mpr ⟨?_, hn⟩, rfl⟩
  exact List.mem_zipIdx_iff_getElem?.mpr h
theorem ax_L_has {G : ax_G} {la : Array Slot} {nL : Nat} {ls : List Value} (h : ax_L G la nL ls) : lv_has la nL (ax_p G ls) := by
  refine ⟨h.1, h.2.1, fun q hq => ?_⟩
  unfold ax_p at hq
  obtain ⟨⟨v, k⟩, h1, rfl⟩ := List.mem_map.mp hq
  obtain ⟨h2, h3⟩ := List.mem_filter.mp h1
  exact h.2.2 k v (List.mem_zipIdx_iff_getElem?.mp h2) h3
theorem ax_L_store {G : ax_G} {la' : Array Slot} {nL i : Nat} {ls : List Value} {v : Value} (hs : ls.all ax_sm = true) (h' : lv_has la' nL ((i, ax_v G v) :: (ax_p G ls).filter (fun q => !(q.1 == i) && !(q.1 + 1 == i && q.2.category == 2)))) : ax_L G la' nL (ls.set i v) := by
  refine ⟨h'.1, h'.2.1, fun k w hk hn => ?_⟩
  by_cases hki : k = i
  · subst hki
    have hlt : k < ls.length := by
      have := (List.getElem?_eq_some_iff.mp hk).1
      simpa using this
    rw [List.getElem?_set_self hlt] at hk
    cases hk
    exact h'.2.2 _ List.mem_cons_self
  · rw [List.getElem?_set_ne (fun e => hki e.symm)] at hk
    have hw : ax_sm w = true := List.all_eq_true.mp hs w (List.mem_of_getElem? hk)
    refine h'.2.2 (k, ax_v G w) (List.mem_cons_of_mem _ (List.mem_filter.mpr ⟨ax_p_mem hk hn, ?_⟩))
    simp [hki, ax_cat1 hw]
section AXS
variable {G : ax_G} {l : Launch} {M : ax_M} {d pc pc' : Nat} {ls st : List Value} {n z : Nat} {h : ax_H} {n' z' : Nat} {Q : Option Value → ax_H → Prop}
theorem ax_iconst {i : Int} {v : Int32} (hd : decode M.2.1 pc = .ok (.iconst i, 1)) (hv : Int32.ofInt i = v) (hp : pc + 1 = pc') (k : AX G l M d pc' ls (.int v :: st) n z h n' z' Q) : AX G l M d pc ls (st) n z h n' z' Q := by
  subst hp
  exact ax_go (fun p e s m args below meth c R H locs cells slots la Q' hx hb hL hown hK hS hR w => lv_iconst hx hb hd hv w) k
theorem ax_bipush {i : Int} {v : Int32} (hd : decode M.2.1 pc = .ok (.bipush i, 2)) (hv : (Int8.ofInt i).toInt32 = v) (hp : pc + 2 = pc') (k : AX G l M d pc' ls (.int v :: st) n z h n' z' Q) : AX G l M d pc ls (st) n z h n' z' Q := by
  subst hp
  exact ax_go (fun p e s m args below meth c R H locs cells slots la Q' hx hb hL hown hK hS hR w => lv_bipush hx hb hd hv w) k
theorem ax_sipush {i : Int} {v : Int32} (hd : decode M.2.1 pc = .ok (.sipush i, 3)) (hv : (Int16.ofInt i).toInt32 = v) (hp : pc + 3 = pc') (k : AX G l M d pc' ls (.int v :: st) n z h n' z' Q) : AX G l M d pc ls (st) n z h n' z' Q := by
  subst hp
  exact ax_go (fun p e s m args below meth c R H locs cells slots la Q' hx hb hL hown hK hS hR w => lv_sipush hx hb hd hv w) k
theorem ax_lconst {i : Fin 2} {v : Int64} (hd : decode M.2.1 pc = .ok (.lconst i, 1)) (hv : Int64.ofNat (i : Nat) = v) (hp : pc + 1 = pc') (k : AX G l M d pc' ls (.long v :: st) n z h n' z' Q) : AX G l M d pc ls (st) n z h n' z' Q := by
  subst hp
  exact ax_go (fun p e s m args below meth c R H locs cells slots la Q' hx hb hL hown hK hS hR w => lv_lconst hx hb hd hv w) k
theorem ax_null  (hd : decode M.2.1 pc = .ok (.aconst_null, 1)) (hp : pc + 1 = pc') (k : AX G l M d pc' ls (.null :: st) n z h n' z' Q) : AX G l M d pc ls (st) n z h n' z' Q := by
  subst hp
  exact ax_go (fun p e s m args below meth c R H locs cells slots la Q' hx hb hL hown hK hS hR w => lv_null hx hb hd w) k
theorem ax_ldc {i : Nat} {v : Int32} (hd : decode M.2.1 pc = .ok (.ldc i, 2)) (hm : Cond.constant M.1.cls i v ∈ lw_tbl) (hp : pc + 2 = pc') (k : AX G l M d pc' ls (.int v :: st) n z h n' z' Q) : AX G l M d pc ls (st) n z h n' z' Q := by
  subst hp
  exact ax_go (fun p e s m args below meth c R H locs cells slots la Q' hx hb hL hown hK hS hR w => lv_ldc hx hb hown (hK.1.use hm rfl) hd w) k
theorem ax_ldcw {i : Nat} {v : Int32} (hd : decode M.2.1 pc = .ok (.ldc_w i, 3)) (hm : Cond.constant M.1.cls i v ∈ lw_tbl) (hp : pc + 3 = pc') (k : AX G l M d pc' ls (.int v :: st) n z h n' z' Q) : AX G l M d pc ls (st) n z h n' z' Q := by
  subst hp
  exact ax_go (fun p e s m args below meth c R H locs cells slots la Q' hx hb hL hown hK hS hR w => lv_ldcw hx hb hown (hK.1.use hm rfl) hd w) k
theorem ax_ldc2 {i : Nat} {v : Int64} (hd : decode M.2.1 pc = .ok (.ldc2_w i, 3)) (hm : Cond.constantLong M.1.cls i v ∈ lw_tbl) (hp : pc + 3 = pc') (k : AX G l M d pc' ls (.long v :: st) n z h n' z' Q) : AX G l M d pc ls (st) n z h n' z' Q := by
  subst hp
  exact ax_go (fun p e s m args below meth c R H locs cells slots la Q' hx hb hL hown hK hS hR w => lv_ldc2 hx hb hown (hK.1.use hm rfl) hd w) k
theorem ax_iload_n {i : Fin 4} {j : Nat} {x : Int32} (hd : decode M.2.1 pc = .ok (.iload_n i, 1)) (hi : (i : Nat) = j) (hl : ls[j]? = some (.int x)) (hp : pc + 1 = pc') (k : AX G l M d pc' ls (.int x :: st) n z h n' z' Q) : AX G l M d pc ls (st) n z h n' z' Q := by
  subst hp
  exact ax_go (fun p e s m args below meth c R H locs cells slots la Q' hx hb hL hown hK hS hR w => lv_iload_n hx hb hd hi (hL.2.2 j _ hl rfl) w) k
theorem ax_iload {j : Nat} {x : Int32} (hd : decode M.2.1 pc = .ok (.iload j, 2)) (hl : ls[j]? = some (.int x)) (hp : pc + 2 = pc') (k : AX G l M d pc' ls (.int x :: st) n z h n' z' Q) : AX G l M d pc ls (st) n z h n' z' Q := by
  subst hp
  exact ax_go (fun p e s m args below meth c R H locs cells slots la Q' hx hb hL hown hK hS hR w => lv_iload hx hb hd (hL.2.2 j _ hl rfl) w) k
theorem ax_lload_n {i : Fin 4} {j : Nat} {x : Int64} (hd : decode M.2.1 pc = .ok (.lload_n i, 1)) (hi : (i : Nat) = j) (hl : ls[j]? = some (.long x)) (hp : pc + 1 = pc') (k : AX G l M d pc' ls (.long x :: st) n z h n' z' Q) : AX G l M d pc ls (st) n z h n' z' Q := by
  subst hp
  exact ax_go (fun p e s m args below meth c R H locs cells slots la Q' hx hb hL hown hK hS hR w => lv_lload_n hx hb hd hi (hL.2.2 j _ hl rfl) w) k
theorem ax_lload {j : Nat} {x : Int64} (hd : decode M.2.1 pc = .ok (.lload j, 2)) (hl : ls[j]? = some (.long x)) (hp : pc + 2 = pc') (k : AX G l M d pc' ls (.long x :: st) n z h n' z' Q) : AX G l M d pc ls (st) n z h n' z' Q := by
  subst hp
  exact ax_go (fun p e s m args below meth c R H locs cells slots la Q' hx hb hL hown hK hS hR w => lv_lload hx hb hd (hL.2.2 j _ hl rfl) w) k
theorem ax_aload_n {i : Fin 4} {j : Nat} {x : Nat} (hd : decode M.2.1 pc = .ok (.aload_n i, 1)) (hi : (i : Nat) = j) (hl : ls[j]? = some (.ref x)) (hp : pc + 1 = pc') (k : AX G l M d pc' ls (.ref x :: st) n z h n' z' Q) : AX G l M d pc ls (st) n z h n' z' Q := by
  subst hp
  exact ax_go (fun p e s m args below meth c R H locs cells slots la Q' hx hb hL hown hK hS hR w => lv_aload_n hx hb hd hi (hL.2.2 j _ hl rfl) w) k
theorem ax_aload {j : Nat} {x : Nat} (hd : decode M.2.1 pc = .ok (.aload j, 2)) (hl : ls[j]? = some (.ref x)) (hp : pc + 2 = pc') (k : AX G l M d pc' ls (.ref x :: st) n z h n' z' Q) : AX G l M d pc ls (st) n z h n' z' Q := by
  subst hp
  exact ax_go (fun p e s m args below meth c R H locs cells slots la Q' hx hb hL hown hK hS hR w => lv_aload hx hb hd (hL.2.2 j _ hl rfl) w) k
theorem ax_aload_nN {i : Fin 4} {j : Nat} (hd : decode M.2.1 pc = .ok (.aload_n i, 1)) (hi : (i : Nat) = j) (hl : ls[j]? = some .null) (hp : pc + 1 = pc') (k : AX G l M d pc' ls (.null :: st) n z h n' z' Q) : AX G l M d pc ls (st) n z h n' z' Q := by
  subst hp
  exact ax_go (fun p e s m args below meth c R H locs cells slots la Q' hx hb hL hown hK hS hR w => lv_aload_nN hx hb hd hi (hL.2.2 j _ hl rfl) w) k
theorem ax_aload_nX {i : Fin 4} {j : Nat} {x : UInt64} (hd : decode M.2.1 pc = .ok (.aload_n i, 1)) (hi : (i : Nat) = j) (hl : ls[j]? = some (.double x)) (hp : pc + 1 = pc') (k : AX G l M d pc' ls (.double x :: st) n z h n' z' Q) : AX G l M d pc ls (st) n z h n' z' Q := by
  subst hp
  exact ax_go (fun p e s m args below meth c R H locs cells slots la Q' hx hb hL hown hK hS hR w => lv_aload_n hx hb hd hi (hL.2.2 j _ hl rfl) w) k
theorem ax_iadd {x y : Int32} (hd : decode M.2.1 pc = .ok (.iadd, 1)) (hp : pc + 1 = pc') (k : AX G l M d pc' ls (.int (x + y) :: st) n z h n' z' Q) : AX G l M d pc ls (.int y :: .int x :: st) n z h n' z' Q := by
  subst hp
  exact ax_go (fun p e s m args below meth c R H locs cells slots la Q' hx hb hL hown hK hS hR w => lv_iadd hx hb hd w) k
theorem ax_isub {x y : Int32} (hd : decode M.2.1 pc = .ok (.isub, 1)) (hp : pc + 1 = pc') (k : AX G l M d pc' ls (.int (x - y) :: st) n z h n' z' Q) : AX G l M d pc ls (.int y :: .int x :: st) n z h n' z' Q := by
  subst hp
  exact ax_go (fun p e s m args below meth c R H locs cells slots la Q' hx hb hL hown hK hS hR w => lv_isub hx hb hd w) k
theorem ax_imul {x y : Int32} (hd : decode M.2.1 pc = .ok (.imul, 1)) (hp : pc + 1 = pc') (k : AX G l M d pc' ls (.int (x * y) :: st) n z h n' z' Q) : AX G l M d pc ls (.int y :: .int x :: st) n z h n' z' Q := by
  subst hp
  exact ax_go (fun p e s m args below meth c R H locs cells slots la Q' hx hb hL hown hK hS hR w => lv_imul hx hb hd w) k
theorem ax_iand {x y : Int32} (hd : decode M.2.1 pc = .ok (.iand, 1)) (hp : pc + 1 = pc') (k : AX G l M d pc' ls (.int (x &&& y) :: st) n z h n' z' Q) : AX G l M d pc ls (.int y :: .int x :: st) n z h n' z' Q := by
  subst hp
  exact ax_go (fun p e s m args below meth c R H locs cells slots la Q' hx hb hL hown hK hS hR w => lv_iand hx hb hd w) k
theorem ax_ior {x y : Int32} (hd : decode M.2.1 pc = .ok (.ior, 1)) (hp : pc + 1 = pc') (k : AX G l M d pc' ls (.int (x ||| y) :: st) n z h n' z' Q) : AX G l M d pc ls (.int y :: .int x :: st) n z h n' z' Q := by
  subst hp
  exact ax_go (fun p e s m args below meth c R H locs cells slots la Q' hx hb hL hown hK hS hR w => lv_ior hx hb hd w) k
theorem ax_ixor {x y : Int32} (hd : decode M.2.1 pc = .ok (.ixor, 1)) (hp : pc + 1 = pc') (k : AX G l M d pc' ls (.int (x ^^^ y) :: st) n z h n' z' Q) : AX G l M d pc ls (.int y :: .int x :: st) n z h n' z' Q := by
  subst hp
  exact ax_go (fun p e s m args below meth c R H locs cells slots la Q' hx hb hL hown hK hS hR w => lv_ixor hx hb hd w) k
theorem ax_ishl {x y : Int32} (hd : decode M.2.1 pc = .ok (.ishl, 1)) (hp : pc + 1 = pc') (k : AX G l M d pc' ls (.int (x <<< (y &&& 31)) :: st) n z h n' z' Q) : AX G l M d pc ls (.int y :: .int x :: st) n z h n' z' Q := by
  subst hp
  exact ax_go (fun p e s m args below meth c R H locs cells slots la Q' hx hb hL hown hK hS hR w => lv_ishl hx hb hd w) k
theorem ax_ishr {x y : Int32} (hd : decode M.2.1 pc = .ok (.ishr, 1)) (hp : pc + 1 = pc') (k : AX G l M d pc' ls (.int (x >>> (y &&& 31)) :: st) n z h n' z' Q) : AX G l M d pc ls (.int y :: .int x :: st) n z h n' z' Q := by
  subst hp
  exact ax_go (fun p e s m args below meth c R H locs cells slots la Q' hx hb hL hown hK hS hR w => lv_ishr hx hb hd w) k
theorem ax_ineg {x : Int32} (hd : decode M.2.1 pc = .ok (.ineg, 1)) (hp : pc + 1 = pc') (k : AX G l M d pc' ls (.int (-x) :: st) n z h n' z' Q) : AX G l M d pc ls (.int x :: st) n z h n' z' Q := by
  subst hp
  exact ax_go (fun p e s m args below meth c R H locs cells slots la Q' hx hb hL hown hK hS hR w => lv_ineg hx hb hd w) k
theorem ax_ladd {x y : Int64} (hd : decode M.2.1 pc = .ok (.ladd, 1)) (hp : pc + 1 = pc') (k : AX G l M d pc' ls (.long (x + y) :: st) n z h n' z' Q) : AX G l M d pc ls (.long y :: .long x :: st) n z h n' z' Q := by
  subst hp
  exact ax_go (fun p e s m args below meth c R H locs cells slots la Q' hx hb hL hown hK hS hR w => lv_ladd hx hb hd w) k
theorem ax_lsub {x y : Int64} (hd : decode M.2.1 pc = .ok (.lsub, 1)) (hp : pc + 1 = pc') (k : AX G l M d pc' ls (.long (x - y) :: st) n z h n' z' Q) : AX G l M d pc ls (.long y :: .long x :: st) n z h n' z' Q := by
  subst hp
  exact ax_go (fun p e s m args below meth c R H locs cells slots la Q' hx hb hL hown hK hS hR w => lv_lsub hx hb hd w) k
theorem ax_lmul {x y : Int64} (hd : decode M.2.1 pc = .ok (.lmul, 1)) (hp : pc + 1 = pc') (k : AX G l M d pc' ls (.long (x * y) :: st) n z h n' z' Q) : AX G l M d pc ls (.long y :: .long x :: st) n z h n' z' Q := by
  subst hp
  exact ax_go (fun p e s m args below meth c R H locs cells slots la Q' hx hb hL hown hK hS hR w => lv_lmul hx hb hd w) k
theorem ax_idiv {x y : Int32} (hd : decode M.2.1 pc = .ok (.idiv, 1)) (hne : ¬ y = 0) (hp : pc + 1 = pc') (k : AX G l M d pc' ls (.int (x / y) :: st) n z h n' z' Q) : AX G l M d pc ls (.int y :: .int x :: st) n z h n' z' Q := by
  subst hp
  exact ax_go (fun p e s m args below meth c R H locs cells slots la Q' hx hb hL hown hK hS hR w => lv_idiv hx hb hd hne w) k
theorem ax_irem {x y : Int32} (hd : decode M.2.1 pc = .ok (.irem, 1)) (hne : ¬ y = 0) (hp : pc + 1 = pc') (k : AX G l M d pc' ls (.int (x - x / y * y) :: st) n z h n' z' Q) : AX G l M d pc ls (.int y :: .int x :: st) n z h n' z' Q := by
  subst hp
  exact ax_go (fun p e s m args below meth c R H locs cells slots la Q' hx hb hL hown hK hS hR w => lv_irem hx hb hd hne w) k
theorem ax_lrem {x y : Int64} (hd : decode M.2.1 pc = .ok (.lrem, 1)) (hne : ¬ y = 0) (hp : pc + 1 = pc') (k : AX G l M d pc' ls (.long (x - x / y * y) :: st) n z h n' z' Q) : AX G l M d pc ls (.long y :: .long x :: st) n z h n' z' Q := by
  subst hp
  exact ax_go (fun p e s m args below meth c R H locs cells slots la Q' hx hb hL hown hK hS hR w => lv_lrem hx hb hd hne w) k
theorem ax_iushr {x y : Int32} (hd : decode M.2.1 pc = .ok (.iushr, 1)) (hp : pc + 1 = pc') (k : AX G l M d pc' ls (.int (x.toUInt32 >>> (y.toUInt32 &&& Int32.toUInt32 31)).toInt32 :: st) n z h n' z' Q) : AX G l M d pc ls (.int y :: .int x :: st) n z h n' z' Q := by
  subst hp
  exact ax_go (fun p e s m args below meth c R H locs cells slots la Q' hx hb hL hown hK hS hR w => lv_iushr hx hb hd rfl w) k
theorem ax_i2l {x : Int32} (hd : decode M.2.1 pc = .ok (.i2l, 1)) (hp : pc + 1 = pc') (k : AX G l M d pc' ls (.long x.toInt64 :: st) n z h n' z' Q) : AX G l M d pc ls (.int x :: st) n z h n' z' Q := by
  subst hp
  exact ax_go (fun p e s m args below meth c R H locs cells slots la Q' hx hb hL hown hK hS hR w => lv_i2l hx hb hd rfl w) k
theorem ax_l2i {x : Int64} (hd : decode M.2.1 pc = .ok (.l2i, 1)) (hp : pc + 1 = pc') (k : AX G l M d pc' ls (.int x.toInt32 :: st) n z h n' z' Q) : AX G l M d pc ls (.long x :: st) n z h n' z' Q := by
  subst hp
  exact ax_go (fun p e s m args below meth c R H locs cells slots la Q' hx hb hL hown hK hS hR w => lv_l2i hx hb hd rfl w) k
theorem ax_lcmp {x y : Int64} (hd : decode M.2.1 pc = .ok (.lcmp, 1)) (hp : pc + 1 = pc') (k : AX G l M d pc' ls (.int (lg_cmp x y) :: st) n z h n' z' Q) : AX G l M d pc ls (.long y :: .long x :: st) n z h n' z' Q := by
  subst hp
  exact ax_go (fun p e s m args below meth c R H locs cells slots la Q' hx hb hL hown hK hS hR w => W.lcmp hx hb hd w) k
theorem ax_dup {v : Value} (hd : decode M.2.1 pc = .ok (.dup, 1)) (hv : ax_sm v = true) (hp : pc + 1 = pc') (k : AX G l M d pc' ls (v :: v :: st) n z h n' z' Q) : AX G l M d pc ls (v :: st) n z h n' z' Q := by
  subst hp
  exact ax_go (fun p e s m args below meth c R H locs cells slots la Q' hx hb hL hown hK hS hR w => lv_dup hx hb hd (ax_cat1 hv) w) k
theorem ax_pop {v : Value} (hd : decode M.2.1 pc = .ok (.pop, 1)) (hv : ax_sm v = true) (hp : pc + 1 = pc') (k : AX G l M d pc' ls (st) n z h n' z' Q) : AX G l M d pc ls (v :: st) n z h n' z' Q := by
  subst hp
  exact ax_go (fun p e s m args below meth c R H locs cells slots la Q' hx hb hL hown hK hS hR w => lv_pop hx hb hd (ax_cat1 hv) w) k
theorem ax_dup_x1 {v w : Value} (hd : decode M.2.1 pc = .ok (.dup_x1, 1)) (hv : ax_sm v = true) (hw : ax_sm w = true) (hp : pc + 1 = pc') (k : AX G l M d pc' ls (v :: w :: v :: st) n z h n' z' Q) : AX G l M d pc ls (v :: w :: st) n z h n' z' Q := by
  subst hp
  exact ax_go (fun p e s m args below meth c R H locs cells slots la Q' hx hb hL hown hK hS hR w => lv_dup_x1 hx hb hd (ax_cat1 hv) (ax_cat1 hw) w) k
theorem ax_dup2 {v w : Value} (hd : decode M.2.1 pc = .ok (.dup2, 1)) (hv : ax_sm v = true) (hw : ax_sm w = true) (hp : pc + 1 = pc') (k : AX G l M d pc' ls (v :: w :: v :: w :: st) n z h n' z' Q) : AX G l M d pc ls (v :: w :: st) n z h n' z' Q := by
  subst hp
  exact ax_go (fun p e s m args below meth c R H locs cells slots la Q' hx hb hL hown hK hS hR w => lv_dup2_11 hx hb hd (ax_cat1 hv) (ax_cat1 hw) w) k
theorem ax_if_eq {x : Int32} {off : Int} {tgt : Nat} (hd : decode M.2.1 pc = .ok (.ifCond .eq off, 3)) (ht : (pc : Int) + off = (tgt : Int)) (hp : pc + 3 = pc') (k1 : x = 0 → AX G l M d tgt ls st n z h n' z' Q) (k2 : ¬ x = 0 → AX G l M d pc' ls st n z h n' z' Q) : AX G l M d pc ls (.int x :: st) n z h n' z' Q := by
  subst hp
  exact ax_br (fun p e s m args below meth c R H locs cells slots la Q' hx hb w1 w2 => lv_if_eq hx hb hd ht w1 w2) k1 k2
theorem ax_if_ne {x : Int32} {off : Int} {tgt : Nat} (hd : decode M.2.1 pc = .ok (.ifCond .ne off, 3)) (ht : (pc : Int) + off = (tgt : Int)) (hp : pc + 3 = pc') (k1 : ¬ x = 0 → AX G l M d tgt ls st n z h n' z' Q) (k2 : x = 0 → AX G l M d pc' ls st n z h n' z' Q) : AX G l M d pc ls (.int x :: st) n z h n' z' Q := by
  subst hp
  exact ax_br (fun p e s m args below meth c R H locs cells slots la Q' hx hb w1 w2 => lv_if_ne hx hb hd ht w1 w2) k1 k2
theorem ax_if_lt {x : Int32} {off : Int} {tgt : Nat} (hd : decode M.2.1 pc = .ok (.ifCond .lt off, 3)) (ht : (pc : Int) + off = (tgt : Int)) (hp : pc + 3 = pc') (k1 : x < 0 → AX G l M d tgt ls st n z h n' z' Q) (k2 : ¬ x < 0 → AX G l M d pc' ls st n z h n' z' Q) : AX G l M d pc ls (.int x :: st) n z h n' z' Q := by
  subst hp
  exact ax_br (fun p e s m args below meth c R H locs cells slots la Q' hx hb w1 w2 => lv_if_lt hx hb hd ht w1 w2) k1 k2
theorem ax_if_ge {x : Int32} {off : Int} {tgt : Nat} (hd : decode M.2.1 pc = .ok (.ifCond .ge off, 3)) (ht : (pc : Int) + off = (tgt : Int)) (hp : pc + 3 = pc') (k1 : 0 ≤ x → AX G l M d tgt ls st n z h n' z' Q) (k2 : ¬ 0 ≤ x → AX G l M d pc' ls st n z h n' z' Q) : AX G l M d pc ls (.int x :: st) n z h n' z' Q := by
  subst hp
  exact ax_br (fun p e s m args below meth c R H locs cells slots la Q' hx hb w1 w2 => lv_if_ge hx hb hd ht w1 w2) k1 k2
theorem ax_if_gt {x : Int32} {off : Int} {tgt : Nat} (hd : decode M.2.1 pc = .ok (.ifCond .gt off, 3)) (ht : (pc : Int) + off = (tgt : Int)) (hp : pc + 3 = pc') (k1 : 0 < x → AX G l M d tgt ls st n z h n' z' Q) (k2 : ¬ 0 < x → AX G l M d pc' ls st n z h n' z' Q) : AX G l M d pc ls (.int x :: st) n z h n' z' Q := by
  subst hp
  exact ax_br (fun p e s m args below meth c R H locs cells slots la Q' hx hb w1 w2 => lv_if_gt hx hb hd ht w1 w2) k1 k2
theorem ax_if_le {x : Int32} {off : Int} {tgt : Nat} (hd : decode M.2.1 pc = .ok (.ifCond .le off, 3)) (ht : (pc : Int) + off = (tgt : Int)) (hp : pc + 3 = pc') (k1 : x ≤ 0 → AX G l M d tgt ls st n z h n' z' Q) (k2 : ¬ x ≤ 0 → AX G l M d pc' ls st n z h n' z' Q) : AX G l M d pc ls (.int x :: st) n z h n' z' Q := by
  subst hp
  exact ax_br (fun p e s m args below meth c R H locs cells slots la Q' hx hb w1 w2 => lv_if_le hx hb hd ht w1 w2) k1 k2
theorem ax_icmp_eq {x y : Int32} {off : Int} {tgt : Nat} (hd : decode M.2.1 pc = .ok (.if_icmp .eq off, 3)) (ht : (pc : Int) + off = (tgt : Int)) (hp : pc + 3 = pc') (k1 : x = y → AX G l M d tgt ls st n z h n' z' Q) (k2 : ¬ x = y → AX G l M d pc' ls st n z h n' z' Q) : AX G l M d pc ls (.int y :: .int x :: st) n z h n' z' Q := by
  subst hp
  exact ax_br (fun p e s m args below meth c R H locs cells slots la Q' hx hb w1 w2 => lv_icmp_eq hx hb hd ht w1 w2) k1 k2
theorem ax_icmp_ne {x y : Int32} {off : Int} {tgt : Nat} (hd : decode M.2.1 pc = .ok (.if_icmp .ne off, 3)) (ht : (pc : Int) + off = (tgt : Int)) (hp : pc + 3 = pc') (k1 : ¬ x = y → AX G l M d tgt ls st n z h n' z' Q) (k2 : x = y → AX G l M d pc' ls st n z h n' z' Q) : AX G l M d pc ls (.int y :: .int x :: st) n z h n' z' Q := by
  subst hp
  exact ax_br (fun p e s m args below meth c R H locs cells slots la Q' hx hb w1 w2 => lv_icmp_ne hx hb hd ht w1 w2) k1 k2
theorem ax_icmp_lt {x y : Int32} {off : Int} {tgt : Nat} (hd : decode M.2.1 pc = .ok (.if_icmp .lt off, 3)) (ht : (pc : Int) + off = (tgt : Int)) (hp : pc + 3 = pc') (k1 : x < y → AX G l M d tgt ls st n z h n' z' Q) (k2 : ¬ x < y → AX G l M d pc' ls st n z h n' z' Q) : AX G l M d pc ls (.int y :: .int x :: st) n z h n' z' Q := by
  subst hp
  exact ax_br (fun p e s m args below meth c R H locs cells slots la Q' hx hb w1 w2 => lv_icmp_lt hx hb hd ht w1 w2) k1 k2
theorem ax_icmp_ge {x y : Int32} {off : Int} {tgt : Nat} (hd : decode M.2.1 pc = .ok (.if_icmp .ge off, 3)) (ht : (pc : Int) + off = (tgt : Int)) (hp : pc + 3 = pc') (k1 : y ≤ x → AX G l M d tgt ls st n z h n' z' Q) (k2 : ¬ y ≤ x → AX G l M d pc' ls st n z h n' z' Q) : AX G l M d pc ls (.int y :: .int x :: st) n z h n' z' Q := by
  subst hp
  exact ax_br (fun p e s m args below meth c R H locs cells slots la Q' hx hb w1 w2 => lv_icmp_ge hx hb hd ht w1 w2) k1 k2
theorem ax_icmp_gt {x y : Int32} {off : Int} {tgt : Nat} (hd : decode M.2.1 pc = .ok (.if_icmp .gt off, 3)) (ht : (pc : Int) + off = (tgt : Int)) (hp : pc + 3 = pc') (k1 : y < x → AX G l M d tgt ls st n z h n' z' Q) (k2 : ¬ y < x → AX G l M d pc' ls st n z h n' z' Q) : AX G l M d pc ls (.int y :: .int x :: st) n z h n' z' Q := by
  subst hp
  exact ax_br (fun p e s m args below meth c R H locs cells slots la Q' hx hb w1 w2 => lv_icmp_gt hx hb hd ht w1 w2) k1 k2
theorem ax_icmp_le {x y : Int32} {off : Int} {tgt : Nat} (hd : decode M.2.1 pc = .ok (.if_icmp .le off, 3)) (ht : (pc : Int) + off = (tgt : Int)) (hp : pc + 3 = pc') (k1 : x ≤ y → AX G l M d tgt ls st n z h n' z' Q) (k2 : ¬ x ≤ y → AX G l M d pc' ls st n z h n' z' Q) : AX G l M d pc ls (.int y :: .int x :: st) n z h n' z' Q := by
  subst hp
  exact ax_br (fun p e s m args below meth c R H locs cells slots la Q' hx hb w1 w2 => lv_icmp_le hx hb hd ht w1 w2) k1 k2
theorem ax_goto {off : Int} {tgt : Nat} (hd : decode M.2.1 pc = .ok (.goto off, 3)) (ht : (pc : Int) + off = (tgt : Int)) (k : AX G l M d tgt ls st n z h n' z' Q) : AX G l M d pc ls st n z h n' z' Q :=
  ax_go (fun p e s m args below meth c R H locs cells slots la Q' hx hb hL hown hK hS hR w => lv_goto hx hb hd ht w) k
theorem ax_ifnull {x : Nat} {off : Int} (hd : decode M.2.1 pc = .ok (.ifnull off, 3)) (hp : pc + 3 = pc') (k : AX G l M d pc' ls st n z h n' z' Q) : AX G l M d pc ls (.ref x :: st) n z h n' z' Q := by
  subst hp
  exact ax_go (fun p e s m args below meth c R H locs cells slots la Q' hx hb hL hown hK hS hR w => lv_ifnull hx hb hd w) k
theorem ax_ifnonnull {x : Nat} {off : Int} {tgt : Nat} (hd : decode M.2.1 pc = .ok (.ifnonnull off, 3)) (ht : (pc : Int) + off = (tgt : Int)) (k : AX G l M d tgt ls st n z h n' z' Q) : AX G l M d pc ls (.ref x :: st) n z h n' z' Q :=
  ax_go (fun p e s m args below meth c R H locs cells slots la Q' hx hb hL hown hK hS hR w => lv_ifnonnull hx hb hd ht w) k
theorem ax_ifnullN  {off : Int} {tgt : Nat} (hd : decode M.2.1 pc = .ok (.ifnull off, 3)) (ht : (pc : Int) + off = (tgt : Int)) (k : AX G l M d tgt ls st n z h n' z' Q) : AX G l M d pc ls (.null :: st) n z h n' z' Q :=
  ax_go (fun p e s m args below meth c R H locs cells slots la Q' hx hb hL hown hK hS hR w => lv_ifnullN hx hb hd ht w) k
theorem ax_ifnonnullN  {off : Int} (hd : decode M.2.1 pc = .ok (.ifnonnull off, 3)) (hp : pc + 3 = pc') (k : AX G l M d pc' ls st n z h n' z' Q) : AX G l M d pc ls (.null :: st) n z h n' z' Q := by
  subst hp
  exact ax_go (fun p e s m args below meth c R H locs cells slots la Q' hx hb hL hown hK hS hR w => lv_ifnonnullN hx hb hd w) k
theorem ax_tableOut {dflt lo hi : Int} {offs : Array Int} {len : Nat} {x : Int32} {tgt : Nat} (hd : decode M.2.1 pc = .ok (.tableswitch dflt lo hi offs, len)) (h1 : x.toInt < lo ∨ hi < x.toInt) (ht : (pc : Int) + dflt = (tgt : Int)) (k : AX G l M d tgt ls st n z h n' z' Q) : AX G l M d pc ls (.int x :: st) n z h n' z' Q :=
  ax_go (fun p e s m args below meth c R H locs cells slots la Q' hx hb hL hown hK hS hR w => lv_tableOut hx hb hd h1 ht w) k
theorem ax_tableIn {dflt lo hi : Int} {offs : Array Int} {len : Nat} {x : Int32} {off : Int} {tgt : Nat} (hd : decode M.2.1 pc = .ok (.tableswitch dflt lo hi offs, len)) (h1 : ¬ x.toInt < lo) (h2 : ¬ hi < x.toInt) (ho : offs[(x.toInt - lo).toNat]? = some off) (ht : (pc : Int) + off = (tgt : Int)) (k : AX G l M d tgt ls st n z h n' z' Q) : AX G l M d pc ls (.int x :: st) n z h n' z' Q :=
  ax_go (fun p e s m args below meth c R H locs cells slots la Q' hx hb hL hown hK hS hR w => lv_tableIn hx hb hd h1 h2 ho ht w) k
theorem ax_sto {i : Nat} {v : Value} (hs : ls.all ax_sm = true)
    (hstep : ∀ (p : Program) (e : Env) (s : State) (m : MethodId) (args : Array Value) (below : List Frame) (meth : Method) (c : Code) (R : Room) (H : Heap) (locs : List Loc) (cells slots : Nat) (la : Array Slot) (Q' : State → Prop),
      p.tables.exec = Jvm.exec → c.code = M.2.1 → lv_has la M.2.2.1 (ax_p G ls) →
      (∀ la' : Array Slot, lv_has la' M.2.2.1 ((i, ax_v G v) :: (ax_p G ls).filter (fun q => !(q.1 == i) && !(q.1 + 1 == i && q.2.category == 2))) → W p l e R s m args below meth c H locs cells slots Q' (F0 m pc' la' (st.map (ax_v G)))) →
      W p l e R s m args below meth c H locs cells slots Q' (F0 m pc la ((v :: st).map (ax_v G))))
    (k : AX G l M d pc' (ls.set i v) st n z h n' z' Q) : AX G l M d pc ls (v :: st) n z h n' z' Q := by
  intro p e s m args below meth c R H locs cells slots la C hd hlo hn hz hc hs' hR hS hL
  exact hstep p e s m args below meth c R H locs cells slots la _ C.1 C.2.1 (ax_L_has hL) (fun la' h' => k p e s m args below meth c R H locs cells slots la' C hd hlo hn hz hc hs' hR hS (ax_L_store hs h'))
theorem ax_istore_n {i : Fin 4} {j : Nat} {x : Int32} (hd : decode M.2.1 pc = .ok (.istore_n i, 1)) (hi : (i : Nat) = j) (hp : pc + 1 = pc') (hn : j < M.2.2.1) (hs : ls.all ax_sm = true) (k : AX G l M d pc' (ls.set j (.int x)) st n z h n' z' Q) : AX G l M d pc ls (.int x :: st) n z h n' z' Q := by
  subst hp
  exact ax_sto hs (fun p e s m args below meth c R H locs cells slots la Q' hx hb hL w => lv_istore_n hx hb hd hi hL hn rfl w) k
theorem ax_istore {j : Nat} {x : Int32} (hd : decode M.2.1 pc = .ok (.istore j, 2)) (hp : pc + 2 = pc') (hn : j < M.2.2.1) (hs : ls.all ax_sm = true) (k : AX G l M d pc' (ls.set j (.int x)) st n z h n' z' Q) : AX G l M d pc ls (.int x :: st) n z h n' z' Q := by
  subst hp
  exact ax_sto hs (fun p e s m args below meth c R H locs cells slots la Q' hx hb hL w => lv_istore hx hb hd hL hn rfl w) k
theorem ax_astore_n {i : Fin 4} {j : Nat} {x : Nat} (hd : decode M.2.1 pc = .ok (.astore_n i, 1)) (hi : (i : Nat) = j) (hp : pc + 1 = pc') (hn : j < M.2.2.1) (hs : ls.all ax_sm = true) (k : AX G l M d pc' (ls.set j (.ref x)) st n z h n' z' Q) : AX G l M d pc ls (.ref x :: st) n z h n' z' Q := by
  subst hp
  exact ax_sto hs (fun p e s m args below meth c R H locs cells slots la Q' hx hb hL w => lv_astore_n hx hb hd hi hL hn rfl w) k
theorem ax_astore {j : Nat} {x : Nat} (hd : decode M.2.1 pc = .ok (.astore j, 2)) (hp : pc + 2 = pc') (hn : j < M.2.2.1) (hs : ls.all ax_sm = true) (k : AX G l M d pc' (ls.set j (.ref x)) st n z h n' z' Q) : AX G l M d pc ls (.ref x :: st) n z h n' z' Q := by
  subst hp
  exact ax_sto hs (fun p e s m args below meth c R H locs cells slots la Q' hx hb hL w => lv_astore hx hb hd hL hn rfl w) k
theorem ax_astore_nN {i : Fin 4} {j : Nat} (hd : decode M.2.1 pc = .ok (.astore_n i, 1)) (hi : (i : Nat) = j) (hp : pc + 1 = pc') (hn : j < M.2.2.1) (hs : ls.all ax_sm = true) (k : AX G l M d pc' (ls.set j .null) st n z h n' z' Q) : AX G l M d pc ls (.null :: st) n z h n' z' Q := by
  subst hp
  exact ax_sto hs (fun p e s m args below meth c R H locs cells slots la Q' hx hb hL w => lv_astore_nN hx hb hd hi hL hn rfl w) k
theorem ax_iinc_g {j : Nat} {i : Int} {x v : Int32} (hd : decode M.2.1 pc = .ok (.iinc j i, 3)) (hp : pc + 3 = pc') (hl : ls[j]? = some (.int x)) (hv : x + Int32.ofInt i = v) (hn : j < M.2.2.1) (hs : ls.all ax_sm = true) (k : AX G l M d pc' (ls.set j (.int v)) st n z h n' z' Q) : AX G l M d pc ls st n z h n' z' Q := by
  subst hp
  intro p e s m args below meth c R H locs cells slots la C hd' hlo hn' hz hc hs' hR hS hL
  have hL' : lv_has la M.2.2.1 ((j, .int x) :: ax_p G ls) := ⟨hL.1, hL.2.1, fun q hq => by
    rcases List.mem_cons.mp hq with rfl | hq
    · exact hL.2.2 j _ hl rfl
    · exact (ax_L_has hL).2.2 q hq⟩
  refine lv_iinc C.1 C.2.1 hd hL' (k := 0) rfl hv hn rfl (fun la' h' => ?_)
  refine k p e s m args below meth c R H locs cells slots la' C hd' hlo hn' hz hc hs' hR hS (ax_L_store (v := .int v) hs ⟨h'.1, h'.2.1, fun q hq => h'.2.2 q ?_⟩)
  rcases List.mem_cons.mp hq with rfl | hq
  · exact List.mem_cons_self
  · exact List.mem_cons_of_mem _ (by
      obtain ⟨q1, q2⟩ := List.mem_filter.mp hq
      exact List.mem_filter.mpr ⟨List.mem_cons_of_mem _ q1, q2⟩)
theorem ax_ist0 {i : Fin 4} {a0 : Value} {r : List Value} {x : Int32} (hd : decode M.2.1 pc = .ok (.istore_n i, 1)) (hi : (i : Nat) = 0) (hp : pc + 1 = pc') (hn : 0 < M.2.2.1) (hs : (a0 :: r).all ax_sm = true) (k : AX G l M d pc' (.int x :: r) st n z h n' z' Q) : AX G l M d pc (a0 :: r) (.int x :: st) n z h n' z' Q := ax_istore_n hd hi hp hn hs k
theorem ax_ast0 {i : Fin 4} {a0 : Value} {r : List Value} {x : Nat} (hd : decode M.2.1 pc = .ok (.astore_n i, 1)) (hi : (i : Nat) = 0) (hp : pc + 1 = pc') (hn : 0 < M.2.2.1) (hs : (a0 :: r).all ax_sm = true) (k : AX G l M d pc' (.ref x :: r) st n z h n' z' Q) : AX G l M d pc (a0 :: r) (.ref x :: st) n z h n' z' Q := ax_astore_n hd hi hp hn hs k
theorem ax_iinc0 {i : Int} {r : List Value} {x v : Int32} (hd : decode M.2.1 pc = .ok (.iinc 0 i, 3)) (hp : pc + 3 = pc') (hv : x + Int32.ofInt i = v) (hn : 0 < M.2.2.1) (hs : (.int x :: r).all ax_sm = true) (k : AX G l M d pc' (.int v :: r) st n z h n' z' Q) : AX G l M d pc (.int x :: r) st n z h n' z' Q := ax_iinc_g hd hp rfl hv hn hs k
theorem ax_ist1 {i : Fin 4} {a0 a1 : Value} {r : List Value} {x : Int32} (hd : decode M.2.1 pc = .ok (.istore_n i, 1)) (hi : (i : Nat) = 1) (hp : pc + 1 = pc') (hn : 1 < M.2.2.1) (hs : (a0 :: a1 :: r).all ax_sm = true) (k : AX G l M d pc' (a0 :: .int x :: r) st n z h n' z' Q) : AX G l M d pc (a0 :: a1 :: r) (.int x :: st) n z h n' z' Q := ax_istore_n hd hi hp hn hs k
theorem ax_ast1 {i : Fin 4} {a0 a1 : Value} {r : List Value} {x : Nat} (hd : decode M.2.1 pc = .ok (.astore_n i, 1)) (hi : (i : Nat) = 1) (hp : pc + 1 = pc') (hn : 1 < M.2.2.1) (hs : (a0 :: a1 :: r).all ax_sm = true) (k : AX G l M d pc' (a0 :: .ref x :: r) st n z h n' z' Q) : AX G l M d pc (a0 :: a1 :: r) (.ref x :: st) n z h n' z' Q := ax_astore_n hd hi hp hn hs k
theorem ax_iinc1 {i : Int} {a0 : Value} {r : List Value} {x v : Int32} (hd : decode M.2.1 pc = .ok (.iinc 1 i, 3)) (hp : pc + 3 = pc') (hv : x + Int32.ofInt i = v) (hn : 1 < M.2.2.1) (hs : (a0 :: .int x :: r).all ax_sm = true) (k : AX G l M d pc' (a0 :: .int v :: r) st n z h n' z' Q) : AX G l M d pc (a0 :: .int x :: r) st n z h n' z' Q := ax_iinc_g hd hp rfl hv hn hs k
theorem ax_ist2 {i : Fin 4} {a0 a1 a2 : Value} {r : List Value} {x : Int32} (hd : decode M.2.1 pc = .ok (.istore_n i, 1)) (hi : (i : Nat) = 2) (hp : pc + 1 = pc') (hn : 2 < M.2.2.1) (hs : (a0 :: a1 :: a2 :: r).all ax_sm = true) (k : AX G l M d pc' (a0 :: a1 :: .int x :: r) st n z h n' z' Q) : AX G l M d pc (a0 :: a1 :: a2 :: r) (.int x :: st) n z h n' z' Q := ax_istore_n hd hi hp hn hs k
theorem ax_ast2 {i : Fin 4} {a0 a1 a2 : Value} {r : List Value} {x : Nat} (hd : decode M.2.1 pc = .ok (.astore_n i, 1)) (hi : (i : Nat) = 2) (hp : pc + 1 = pc') (hn : 2 < M.2.2.1) (hs : (a0 :: a1 :: a2 :: r).all ax_sm = true) (k : AX G l M d pc' (a0 :: a1 :: .ref x :: r) st n z h n' z' Q) : AX G l M d pc (a0 :: a1 :: a2 :: r) (.ref x :: st) n z h n' z' Q := ax_astore_n hd hi hp hn hs k
theorem ax_iinc2 {i : Int} {a0 a1 : Value} {r : List Value} {x v : Int32} (hd : decode M.2.1 pc = .ok (.iinc 2 i, 3)) (hp : pc + 3 = pc') (hv : x + Int32.ofInt i = v) (hn : 2 < M.2.2.1) (hs : (a0 :: a1 :: .int x :: r).all ax_sm = true) (k : AX G l M d pc' (a0 :: a1 :: .int v :: r) st n z h n' z' Q) : AX G l M d pc (a0 :: a1 :: .int x :: r) st n z h n' z' Q := ax_iinc_g hd hp rfl hv hn hs k
theorem ax_ist3 {i : Fin 4} {a0 a1 a2 a3 : Value} {r : List Value} {x : Int32} (hd : decode M.2.1 pc = .ok (.istore_n i, 1)) (hi : (i : Nat) = 3) (hp : pc + 1 = pc') (hn : 3 < M.2.2.1) (hs : (a0 :: a1 :: a2 :: a3 :: r).all ax_sm = true) (k : AX G l M d pc' (a0 :: a1 :: a2 :: .int x :: r) st n z h n' z' Q) : AX G l M d pc (a0 :: a1 :: a2 :: a3 :: r) (.int x :: st) n z h n' z' Q := ax_istore_n hd hi hp hn hs k
theorem ax_ast3 {i : Fin 4} {a0 a1 a2 a3 : Value} {r : List Value} {x : Nat} (hd : decode M.2.1 pc = .ok (.astore_n i, 1)) (hi : (i : Nat) = 3) (hp : pc + 1 = pc') (hn : 3 < M.2.2.1) (hs : (a0 :: a1 :: a2 :: a3 :: r).all ax_sm = true) (k : AX G l M d pc' (a0 :: a1 :: a2 :: .ref x :: r) st n z h n' z' Q) : AX G l M d pc (a0 :: a1 :: a2 :: a3 :: r) (.ref x :: st) n z h n' z' Q := ax_astore_n hd hi hp hn hs k
theorem ax_iinc3 {i : Int} {a0 a1 a2 : Value} {r : List Value} {x v : Int32} (hd : decode M.2.1 pc = .ok (.iinc 3 i, 3)) (hp : pc + 3 = pc') (hv : x + Int32.ofInt i = v) (hn : 3 < M.2.2.1) (hs : (a0 :: a1 :: a2 :: .int x :: r).all ax_sm = true) (k : AX G l M d pc' (a0 :: a1 :: a2 :: .int v :: r) st n z h n' z' Q) : AX G l M d pc (a0 :: a1 :: a2 :: .int x :: r) st n z h n' z' Q := ax_iinc_g hd hp rfl hv hn hs k
theorem ax_ist4 {a0 a1 a2 a3 a4 : Value} {r : List Value} {x : Int32} (hd : decode M.2.1 pc = .ok (.istore 4, 2)) (hp : pc + 2 = pc') (hn : 4 < M.2.2.1) (hs : (a0 :: a1 :: a2 :: a3 :: a4 :: r).all ax_sm = true) (k : AX G l M d pc' (a0 :: a1 :: a2 :: a3 :: .int x :: r) st n z h n' z' Q) : AX G l M d pc (a0 :: a1 :: a2 :: a3 :: a4 :: r) (.int x :: st) n z h n' z' Q := ax_istore hd hp hn hs k
theorem ax_ast4 {a0 a1 a2 a3 a4 : Value} {r : List Value} {x : Nat} (hd : decode M.2.1 pc = .ok (.astore 4, 2)) (hp : pc + 2 = pc') (hn : 4 < M.2.2.1) (hs : (a0 :: a1 :: a2 :: a3 :: a4 :: r).all ax_sm = true) (k : AX G l M d pc' (a0 :: a1 :: a2 :: a3 :: .ref x :: r) st n z h n' z' Q) : AX G l M d pc (a0 :: a1 :: a2 :: a3 :: a4 :: r) (.ref x :: st) n z h n' z' Q := ax_astore hd hp hn hs k
theorem ax_iinc4 {i : Int} {a0 a1 a2 a3 : Value} {r : List Value} {x v : Int32} (hd : decode M.2.1 pc = .ok (.iinc 4 i, 3)) (hp : pc + 3 = pc') (hv : x + Int32.ofInt i = v) (hn : 4 < M.2.2.1) (hs : (a0 :: a1 :: a2 :: a3 :: .int x :: r).all ax_sm = true) (k : AX G l M d pc' (a0 :: a1 :: a2 :: a3 :: .int v :: r) st n z h n' z' Q) : AX G l M d pc (a0 :: a1 :: a2 :: a3 :: .int x :: r) st n z h n' z' Q := ax_iinc_g hd hp rfl hv hn hs k
theorem ax_ist5 {a0 a1 a2 a3 a4 a5 : Value} {r : List Value} {x : Int32} (hd : decode M.2.1 pc = .ok (.istore 5, 2)) (hp : pc + 2 = pc') (hn : 5 < M.2.2.1) (hs : (a0 :: a1 :: a2 :: a3 :: a4 :: a5 :: r).all ax_sm = true) (k : AX G l M d pc' (a0 :: a1 :: a2 :: a3 :: a4 :: .int x :: r) st n z h n' z' Q) : AX G l M d pc (a0 :: a1 :: a2 :: a3 :: a4 :: a5 :: r) (.int x :: st) n z h n' z' Q := ax_istore hd hp hn hs k
theorem ax_ast5 {a0 a1 a2 a3 a4 a5 : Value} {r : List Value} {x : Nat} (hd : decode M.2.1 pc = .ok (.astore 5, 2)) (hp : pc + 2 = pc') (hn : 5 < M.2.2.1) (hs : (a0 :: a1 :: a2 :: a3 :: a4 :: a5 :: r).all ax_sm = true) (k : AX G l M d pc' (a0 :: a1 :: a2 :: a3 :: a4 :: .ref x :: r) st n z h n' z' Q) : AX G l M d pc (a0 :: a1 :: a2 :: a3 :: a4 :: a5 :: r) (.ref x :: st) n z h n' z' Q := ax_astore hd hp hn hs k
theorem ax_iinc5 {i : Int} {a0 a1 a2 a3 a4 : Value} {r : List Value} {x v : Int32} (hd : decode M.2.1 pc = .ok (.iinc 5 i, 3)) (hp : pc + 3 = pc') (hv : x + Int32.ofInt i = v) (hn : 5 < M.2.2.1) (hs : (a0 :: a1 :: a2 :: a3 :: a4 :: .int x :: r).all ax_sm = true) (k : AX G l M d pc' (a0 :: a1 :: a2 :: a3 :: a4 :: .int v :: r) st n z h n' z' Q) : AX G l M d pc (a0 :: a1 :: a2 :: a3 :: a4 :: .int x :: r) st n z h n' z' Q := ax_iinc_g hd hp rfl hv hn hs k
theorem ax_ist6 {a0 a1 a2 a3 a4 a5 a6 : Value} {r : List Value} {x : Int32} (hd : decode M.2.1 pc = .ok (.istore 6, 2)) (hp : pc + 2 = pc') (hn : 6 < M.2.2.1) (hs : (a0 :: a1 :: a2 :: a3 :: a4 :: a5 :: a6 :: r).all ax_sm = true) (k : AX G l M d pc' (a0 :: a1 :: a2 :: a3 :: a4 :: a5 :: .int x :: r) st n z h n' z' Q) : AX G l M d pc (a0 :: a1 :: a2 :: a3 :: a4 :: a5 :: a6 :: r) (.int x :: st) n z h n' z' Q := ax_istore hd hp hn hs k
theorem ax_ast6 {a0 a1 a2 a3 a4 a5 a6 : Value} {r : List Value} {x : Nat} (hd : decode M.2.1 pc = .ok (.astore 6, 2)) (hp : pc + 2 = pc') (hn : 6 < M.2.2.1) (hs : (a0 :: a1 :: a2 :: a3 :: a4 :: a5 :: a6 :: r).all ax_sm = true) (k : AX G l M d pc' (a0 :: a1 :: a2 :: a3 :: a4 :: a5 :: .ref x :: r) st n z h n' z' Q) : AX G l M d pc (a0 :: a1 :: a2 :: a3 :: a4 :: a5 :: a6 :: r) (.ref x :: st) n z h n' z' Q := ax_astore hd hp hn hs k
theorem ax_iinc6 {i : Int} {a0 a1 a2 a3 a4 a5 : Value} {r : List Value} {x v : Int32} (hd : decode M.2.1 pc = .ok (.iinc 6 i, 3)) (hp : pc + 3 = pc') (hv : x + Int32.ofInt i = v) (hn : 6 < M.2.2.1) (hs : (a0 :: a1 :: a2 :: a3 :: a4 :: a5 :: .int x :: r).all ax_sm = true) (k : AX G l M d pc' (a0 :: a1 :: a2 :: a3 :: a4 :: a5 :: .int v :: r) st n z h n' z' Q) : AX G l M d pc (a0 :: a1 :: a2 :: a3 :: a4 :: a5 :: .int x :: r) st n z h n' z' Q := ax_iinc_g hd hp rfl hv hn hs k
theorem ax_ist7 {a0 a1 a2 a3 a4 a5 a6 a7 : Value} {r : List Value} {x : Int32} (hd : decode M.2.1 pc = .ok (.istore 7, 2)) (hp : pc + 2 = pc') (hn : 7 < M.2.2.1) (hs : (a0 :: a1 :: a2 :: a3 :: a4 :: a5 :: a6 :: a7 :: r).all ax_sm = true) (k : AX G l M d pc' (a0 :: a1 :: a2 :: a3 :: a4 :: a5 :: a6 :: .int x :: r) st n z h n' z' Q) : AX G l M d pc (a0 :: a1 :: a2 :: a3 :: a4 :: a5 :: a6 :: a7 :: r) (.int x :: st) n z h n' z' Q := ax_istore hd hp hn hs k
theorem ax_ast7 {a0 a1 a2 a3 a4 a5 a6 a7 : Value} {r : List Value} {x : Nat} (hd : decode M.2.1 pc = .ok (.astore 7, 2)) (hp : pc + 2 = pc') (hn : 7 < M.2.2.1) (hs : (a0 :: a1 :: a2 :: a3 :: a4 :: a5 :: a6 :: a7 :: r).all ax_sm = true) (k : AX G l M d pc' (a0 :: a1 :: a2 :: a3 :: a4 :: a5 :: a6 :: .ref x :: r) st n z h n' z' Q) : AX G l M d pc (a0 :: a1 :: a2 :: a3 :: a4 :: a5 :: a6 :: a7 :: r) (.ref x :: st) n z h n' z' Q := ax_astore hd hp hn hs k
theorem ax_iinc7 {i : Int} {a0 a1 a2 a3 a4 a5 a6 : Value} {r : List Value} {x v : Int32} (hd : decode M.2.1 pc = .ok (.iinc 7 i, 3)) (hp : pc + 3 = pc') (hv : x + Int32.ofInt i = v) (hn : 7 < M.2.2.1) (hs : (a0 :: a1 :: a2 :: a3 :: a4 :: a5 :: a6 :: .int x :: r).all ax_sm = true) (k : AX G l M d pc' (a0 :: a1 :: a2 :: a3 :: a4 :: a5 :: a6 :: .int v :: r) st n z h n' z' Q) : AX G l M d pc (a0 :: a1 :: a2 :: a3 :: a4 :: a5 :: a6 :: .int x :: r) st n z h n' z' Q := ax_iinc_g hd hp rfl hv hn hs k
theorem ax_ist8 {a0 a1 a2 a3 a4 a5 a6 a7 a8 : Value} {r : List Value} {x : Int32} (hd : decode M.2.1 pc = .ok (.istore 8, 2)) (hp : pc + 2 = pc') (hn : 8 < M.2.2.1) (hs : (a0 :: a1 :: a2 :: a3 :: a4 :: a5 :: a6 :: a7 :: a8 :: r).all ax_sm = true) (k : AX G l M d pc' (a0 :: a1 :: a2 :: a3 :: a4 :: a5 :: a6 :: a7 :: .int x :: r) st n z h n' z' Q) : AX G l M d pc (a0 :: a1 :: a2 :: a3 :: a4 :: a5 :: a6 :: a7 :: a8 :: r) (.int x :: st) n z h n' z' Q := ax_istore hd hp hn hs k
theorem ax_ast8 {a0 a1 a2 a3 a4 a5 a6 a7 a8 : Value} {r : List Value} {x : Nat} (hd : decode M.2.1 pc = .ok (.astore 8, 2)) (hp : pc + 2 = pc') (hn : 8 < M.2.2.1) (hs : (a0 :: a1 :: a2 :: a3 :: a4 :: a5 :: a6 :: a7 :: a8 :: r).all ax_sm = true) (k : AX G l M d pc' (a0 :: a1 :: a2 :: a3 :: a4 :: a5 :: a6 :: a7 :: .ref x :: r) st n z h n' z' Q) : AX G l M d pc (a0 :: a1 :: a2 :: a3 :: a4 :: a5 :: a6 :: a7 :: a8 :: r) (.ref x :: st) n z h n' z' Q := ax_astore hd hp hn hs k
theorem ax_iinc8 {i : Int} {a0 a1 a2 a3 a4 a5 a6 a7 : Value} {r : List Value} {x v : Int32} (hd : decode M.2.1 pc = .ok (.iinc 8 i, 3)) (hp : pc + 3 = pc') (hv : x + Int32.ofInt i = v) (hn : 8 < M.2.2.1) (hs : (a0 :: a1 :: a2 :: a3 :: a4 :: a5 :: a6 :: a7 :: .int x :: r).all ax_sm = true) (k : AX G l M d pc' (a0 :: a1 :: a2 :: a3 :: a4 :: a5 :: a6 :: a7 :: .int v :: r) st n z h n' z' Q) : AX G l M d pc (a0 :: a1 :: a2 :: a3 :: a4 :: a5 :: a6 :: a7 :: .int x :: r) st n z h n' z' Q := ax_iinc_g hd hp rfl hv hn hs k
theorem ax_ist9 {a0 a1 a2 a3 a4 a5 a6 a7 a8 a9 : Value} {r : List Value} {x : Int32} (hd : decode M.2.1 pc = .ok (.istore 9, 2)) (hp : pc + 2 = pc') (hn : 9 < M.2.2.1) (hs : (a0 :: a1 :: a2 :: a3 :: a4 :: a5 :: a6 :: a7 :: a8 :: a9 :: r).all ax_sm = true) (k : AX G l M d pc' (a0 :: a1 :: a2 :: a3 :: a4 :: a5 :: a6 :: a7 :: a8 :: .int x :: r) st n z h n' z' Q) : AX G l M d pc (a0 :: a1 :: a2 :: a3 :: a4 :: a5 :: a6 :: a7 :: a8 :: a9 :: r) (.int x :: st) n z h n' z' Q := ax_istore hd hp hn hs k
theorem ax_ast9 {a0 a1 a2 a3 a4 a5 a6 a7 a8 a9 : Value} {r : List Value} {x : Nat} (hd : decode M.2.1 pc = .ok (.astore 9, 2)) (hp : pc + 2 = pc') (hn : 9 < M.2.2.1) (hs : (a0 :: a1 :: a2 :: a3 :: a4 :: a5 :: a6 :: a7 :: a8 :: a9 :: r).all ax_sm = true) (k : AX G l M d pc' (a0 :: a1 :: a2 :: a3 :: a4 :: a5 :: a6 :: a7 :: a8 :: .ref x :: r) st n z h n' z' Q) : AX G l M d pc (a0 :: a1 :: a2 :: a3 :: a4 :: a5 :: a6 :: a7 :: a8 :: a9 :: r) (.ref x :: st) n z h n' z' Q := ax_astore hd hp hn hs k
theorem ax_iinc9 {i : Int} {a0 a1 a2 a3 a4 a5 a6 a7 a8 : Value} {r : List Value} {x v : Int32} (hd : decode M.2.1 pc = .ok (.iinc 9 i, 3)) (hp : pc + 3 = pc') (hv : x + Int32.ofInt i = v) (hn : 9 < M.2.2.1) (hs : (a0 :: a1 :: a2 :: a3 :: a4 :: a5 :: a6 :: a7 :: a8 :: .int x :: r).all ax_sm = true) (k : AX G l M d pc' (a0 :: a1 :: a2 :: a3 :: a4 :: a5 :: a6 :: a7 :: a8 :: .int v :: r) st n z h n' z' Q) : AX G l M d pc (a0 :: a1 :: a2 :: a3 :: a4 :: a5 :: a6 :: a7 :: a8 :: .int x :: r) st n z h n' z' Q := ax_iinc_g hd hp rfl hv hn hs k
theorem ax_ist10 {a0 a1 a2 a3 a4 a5 a6 a7 a8 a9 a10 : Value} {r : List Value} {x : Int32} (hd : decode M.2.1 pc = .ok (.istore 10, 2)) (hp : pc + 2 = pc') (hn : 10 < M.2.2.1) (hs : (a0 :: a1 :: a2 :: a3 :: a4 :: a5 :: a6 :: a7 :: a8 :: a9 :: a10 :: r).all ax_sm = true) (k : AX G l M d pc' (a0 :: a1 :: a2 :: a3 :: a4 :: a5 :: a6 :: a7 :: a8 :: a9 :: .int x :: r) st n z h n' z' Q) : AX G l M d pc (a0 :: a1 :: a2 :: a3 :: a4 :: a5 :: a6 :: a7 :: a8 :: a9 :: a10 :: r) (.int x :: st) n z h n' z' Q := ax_istore hd hp hn hs k
theorem ax_ast10 {a0 a1 a2 a3 a4 a5 a6 a7 a8 a9 a10 : Value} {r : List Value} {x : Nat} (hd : decode M.2.1 pc = .ok (.astore 10, 2)) (hp : pc + 2 = pc') (hn : 10 < M.2.2.1) (hs : (a0 :: a1 :: a2 :: a3 :: a4 :: a5 :: a6 :: a7 :: a8 :: a9 :: a10 :: r).all ax_sm = true) (k : AX G l M d pc' (a0 :: a1 :: a2 :: a3 :: a4 :: a5 :: a6 :: a7 :: a8 :: a9 :: .ref x :: r) st n z h n' z' Q) : AX G l M d pc (a0 :: a1 :: a2 :: a3 :: a4 :: a5 :: a6 :: a7 :: a8 :: a9 :: a10 :: r) (.ref x :: st) n z h n' z' Q := ax_astore hd hp hn hs k
theorem ax_iinc10 {i : Int} {a0 a1 a2 a3 a4 a5 a6 a7 a8 a9 : Value} {r : List Value} {x v : Int32} (hd : decode M.2.1 pc = .ok (.iinc 10 i, 3)) (hp : pc + 3 = pc') (hv : x + Int32.ofInt i = v) (hn : 10 < M.2.2.1) (hs : (a0 :: a1 :: a2 :: a3 :: a4 :: a5 :: a6 :: a7 :: a8 :: a9 :: .int x :: r).all ax_sm = true) (k : AX G l M d pc' (a0 :: a1 :: a2 :: a3 :: a4 :: a5 :: a6 :: a7 :: a8 :: a9 :: .int v :: r) st n z h n' z' Q) : AX G l M d pc (a0 :: a1 :: a2 :: a3 :: a4 :: a5 :: a6 :: a7 :: a8 :: a9 :: .int x :: r) st n z h n' z' Q := ax_iinc_g hd hp rfl hv hn hs k
theorem ax_ist11 {a0 a1 a2 a3 a4 a5 a6 a7 a8 a9 a10 a11 : Value} {r : List Value} {x : Int32} (hd : decode M.2.1 pc = .ok (.istore 11, 2)) (hp : pc + 2 = pc') (hn : 11 < M.2.2.1) (hs : (a0 :: a1 :: a2 :: a3 :: a4 :: a5 :: a6 :: a7 :: a8 :: a9 :: a10 :: a11 :: r).all ax_sm = true) (k : AX G l M d pc' (a0 :: a1 :: a2 :: a3 :: a4 :: a5 :: a6 :: a7 :: a8 :: a9 :: a10 :: .int x :: r) st n z h n' z' Q) : AX G l M d pc (a0 :: a1 :: a2 :: a3 :: a4 :: a5 :: a6 :: a7 :: a8 :: a9 :: a10 :: a11 :: r) (.int x :: st) n z h n' z' Q := ax_istore hd hp hn hs k
theorem ax_ast11 {a0 a1 a2 a3 a4 a5 a6 a7 a8 a9 a10 a11 : Value} {r : List Value} {x : Nat} (hd : decode M.2.1 pc = .ok (.astore 11, 2)) (hp : pc + 2 = pc') (hn : 11 < M.2.2.1) (hs : (a0 :: a1 :: a2 :: a3 :: a4 :: a5 :: a6 :: a7 :: a8 :: a9 :: a10 :: a11 :: r).all ax_sm = true) (k : AX G l M d pc' (a0 :: a1 :: a2 :: a3 :: a4 :: a5 :: a6 :: a7 :: a8 :: a9 :: a10 :: .ref x :: r) st n z h n' z' Q) : AX G l M d pc (a0 :: a1 :: a2 :: a3 :: a4 :: a5 :: a6 :: a7 :: a8 :: a9 :: a10 :: a11 :: r) (.ref x :: st) n z h n' z' Q := ax_astore hd hp hn hs k
theorem ax_iinc11 {i : Int} {a0 a1 a2 a3 a4 a5 a6 a7 a8 a9 a10 : Value} {r : List Value} {x v : Int32} (hd : decode M.2.1 pc = .ok (.iinc 11 i, 3)) (hp : pc + 3 = pc') (hv : x + Int32.ofInt i = v) (hn : 11 < M.2.2.1) (hs : (a0 :: a1 :: a2 :: a3 :: a4 :: a5 :: a6 :: a7 :: a8 :: a9 :: a10 :: .int x :: r).all ax_sm = true) (k : AX G l M d pc' (a0 :: a1 :: a2 :: a3 :: a4 :: a5 :: a6 :: a7 :: a8 :: a9 :: a10 :: .int v :: r) st n z h n' z' Q) : AX G l M d pc (a0 :: a1 :: a2 :: a3 :: a4 :: a5 :: a6 :: a7 :: a8 :: a9 :: a10 :: .int x :: r) st n z h n' z' Q := ax_iinc_g hd hp rfl hv hn hs k
theorem ax_ist12 {a0 a1 a2 a3 a4 a5 a6 a7 a8 a9 a10 a11 a12 : Value} {r : List Value} {x : Int32} (hd : decode M.2.1 pc = .ok (.istore 12, 2)) (hp : pc + 2 = pc') (hn : 12 < M.2.2.1) (hs : (a0 :: a1 :: a2 :: a3 :: a4 :: a5 :: a6 :: a7 :: a8 :: a9 :: a10 :: a11 :: a12 :: r).all ax_sm = true) (k : AX G l M d pc' (a0 :: a1 :: a2 :: a3 :: a4 :: a5 :: a6 :: a7 :: a8 :: a9 :: a10 :: a11 :: .int x :: r) st n z h n' z' Q) : AX G l M d pc (a0 :: a1 :: a2 :: a3 :: a4 :: a5 :: a6 :: a7 :: a8 :: a9 :: a10 :: a11 :: a12 :: r) (.int x :: st) n z h n' z' Q := ax_istore hd hp hn hs k
theorem ax_ast12 {a0 a1 a2 a3 a4 a5 a6 a7 a8 a9 a10 a11 a12 : Value} {r : List Value} {x : Nat} (hd : decode M.2.1 pc = .ok (.astore 12, 2)) (hp : pc + 2 = pc') (hn : 12 < M.2.2.1) (hs : (a0 :: a1 :: a2 :: a3 :: a4 :: a5 :: a6 :: a7 :: a8 :: a9 :: a10 :: a11 :: a12 :: r).all ax_sm = true) (k : AX G l M d pc' (a0 :: a1 :: a2 :: a3 :: a4 :: a5 :: a6 :: a7 :: a8 :: a9 :: a10 :: a11 :: .ref x :: r) st n z h n' z' Q) : AX G l M d pc (a0 :: a1 :: a2 :: a3 :: a4 :: a5 :: a6 :: a7 :: a8 :: a9 :: a10 :: a11 :: a12 :: r) (.ref x :: st) n z h n' z' Q := ax_astore hd hp hn hs k
theorem ax_iinc12 {i : Int} {a0 a1 a2 a3 a4 a5 a6 a7 a8 a9 a10 a11 : Value} {r : List Value} {x v : Int32} (hd : decode M.2.1 pc = .ok (.iinc 12 i, 3)) (hp : pc + 3 = pc') (hv : x + Int32.ofInt i = v) (hn : 12 < M.2.2.1) (hs : (a0 :: a1 :: a2 :: a3 :: a4 :: a5 :: a6 :: a7 :: a8 :: a9 :: a10 :: a11 :: .int x :: r).all ax_sm = true) (k : AX G l M d pc' (a0 :: a1 :: a2 :: a3 :: a4 :: a5 :: a6 :: a7 :: a8 :: a9 :: a10 :: a11 :: .int v :: r) st n z h n' z' Q) : AX G l M d pc (a0 :: a1 :: a2 :: a3 :: a4 :: a5 :: a6 :: a7 :: a8 :: a9 :: a10 :: a11 :: .int x :: r) st n z h n' z' Q := ax_iinc_g hd hp rfl hv hn hs k
theorem ax_ist13 {a0 a1 a2 a3 a4 a5 a6 a7 a8 a9 a10 a11 a12 a13 : Value} {r : List Value} {x : Int32} (hd : decode M.2.1 pc = .ok (.istore 13, 2)) (hp : pc + 2 = pc') (hn : 13 < M.2.2.1) (hs : (a0 :: a1 :: a2 :: a3 :: a4 :: a5 :: a6 :: a7 :: a8 :: a9 :: a10 :: a11 :: a12 :: a13 :: r).all ax_sm = true) (k : AX G l M d pc' (a0 :: a1 :: a2 :: a3 :: a4 :: a5 :: a6 :: a7 :: a8 :: a9 :: a10 :: a11 :: a12 :: .int x :: r) st n z h n' z' Q) : AX G l M d pc (a0 :: a1 :: a2 :: a3 :: a4 :: a5 :: a6 :: a7 :: a8 :: a9 :: a10 :: a11 :: a12 :: a13 :: r) (.int x :: st) n z h n' z' Q := ax_istore hd hp hn hs k
theorem ax_ast13 {a0 a1 a2 a3 a4 a5 a6 a7 a8 a9 a10 a11 a12 a13 : Value} {r : List Value} {x : Nat} (hd : decode M.2.1 pc = .ok (.astore 13, 2)) (hp : pc + 2 = pc') (hn : 13 < M.2.2.1) (hs : (a0 :: a1 :: a2 :: a3 :: a4 :: a5 :: a6 :: a7 :: a8 :: a9 :: a10 :: a11 :: a12 :: a13 :: r).all ax_sm = true) (k : AX G l M d pc' (a0 :: a1 :: a2 :: a3 :: a4 :: a5 :: a6 :: a7 :: a8 :: a9 :: a10 :: a11 :: a12 :: .ref x :: r) st n z h n' z' Q) : AX G l M d pc (a0 :: a1 :: a2 :: a3 :: a4 :: a5 :: a6 :: a7 :: a8 :: a9 :: a10 :: a11 :: a12 :: a13 :: r) (.ref x :: st) n z h n' z' Q := ax_astore hd hp hn hs k
theorem ax_iinc13 {i : Int} {a0 a1 a2 a3 a4 a5 a6 a7 a8 a9 a10 a11 a12 : Value} {r : List Value} {x v : Int32} (hd : decode M.2.1 pc = .ok (.iinc 13 i, 3)) (hp : pc + 3 = pc') (hv : x + Int32.ofInt i = v) (hn : 13 < M.2.2.1) (hs : (a0 :: a1 :: a2 :: a3 :: a4 :: a5 :: a6 :: a7 :: a8 :: a9 :: a10 :: a11 :: a12 :: .int x :: r).all ax_sm = true) (k : AX G l M d pc' (a0 :: a1 :: a2 :: a3 :: a4 :: a5 :: a6 :: a7 :: a8 :: a9 :: a10 :: a11 :: a12 :: .int v :: r) st n z h n' z' Q) : AX G l M d pc (a0 :: a1 :: a2 :: a3 :: a4 :: a5 :: a6 :: a7 :: a8 :: a9 :: a10 :: a11 :: a12 :: .int x :: r) st n z h n' z' Q := ax_iinc_g hd hp rfl hv hn hs k
end AXS
end
section
/-! ===== rows of AX that touch the heap; calls; entry and return ===== -/
abbrev ax_obj (ci : Nat) (fs : List Value) : ax_C := .inr (.inr (ci, fs))
abbrev ax_arr (t n : Nat) (f : Nat → Int32) : ax_C := .inl (t, n, f)
abbrev ax_arq (n : Nat) (f : Nat → Option Nat) : ax_C := .inr (.inl (n, f))
theorem ax_R.put {G : ax_G} {n a : Nat} {h : ax_H} {c : ax_C} {H H1 : Heap} (hR : ax_R G n h H) (ha : a < n) (hat : va_at (ax_gD G) vwCl (ax_gB G + a, ax_e G c) H1) (z : H1.size = H.size) (oq : ∀ q : Nat, q ≠ ax_gB G + a → H1[q]? = H[q]?) : ax_R G n (va_up h a c) H1 := by
  refine ⟨?_, z.trans hR.2⟩
  rw [← ax_w_set ha]
  exact hR.1.set ax_w_D (ax_w_get ha) hat oq
theorem ax_up_self (h : ax_H) (a : Nat) : va_up h a (h a) = h := by
  funext j
  unfold va_up
  split
  · next e => rw [e]
  · rfl
/-- a field, by its class's number and its own -/
def ax_F (own : String) (idx ci k : Nat) (ty : FieldType) (fin : Bool) : Prop :=
  ∃ (C : String) (T : u_T) (N : Nat) (ty0 : Nat → FieldType), vwCl[ci]? = some (C, T, N) ∧ (∀ w ∈ u_ws C T N, w ∈ lw_tbl) ∧ (∀ k, k < N → parseFieldDescriptor (T k).2.2.1 = some (ty0 k)) ∧ (∀ a, a < N → ∀ b, b < N → a ≠ b → (T a).2.1 ≠ (T b).2.1) ∧ k < N ∧ ty0 k = ty ∧ (T k).2.2.2 = fin ∧ (T k).1 = C ∧
    (Cond.fieldLink own idx (T k).1 (T k).2.1 (T k).2.2.1 ∈ lw_tbl ∨ ∃ host, Cond.fieldLinkNest own idx (T k).1 (T k).2.1 (T k).2.2.1 host ∈ lw_tbl)
theorem ax_lays_ok {C : String} {T : u_T} {N : Nat} : ∀ w ∈ u_ws C T N, ax_ok w = true := by
  intro w hw
  obtain ⟨k, -, rfl⟩ := List.mem_map.mp hw
  unfold u_lay
  split <;> rfl
theorem ax_lays {C : String} {T : u_T} {N : Nat} {s : State} {args : Array Value} (hT : ax_T s) (hin : ∀ w ∈ u_ws C T N, w ∈ lw_tbl) : ∀ w ∈ u_ws C T N, w.before args s = true := fun w hw => hT.use (hin w hw) (ax_lays_ok w hw)
section AXH
variable {G : ax_G} {l : Launch} {M : ax_M} {d pc pc' : Nat} {ls st : List Value} {n z : Nat} {h : ax_H} {n' z' : Nat} {Q : Option Value → ax_H → Prop}
theorem ax_get {a idx ci k : Nat} {ty : FieldType} {fin : Bool} {fs : List Value} {v : Value} (hF : ax_F M.1.cls idx ci k ty fin) (hd : decode M.2.1 pc = .ok (.getfield idx, 3)) (hp : pc + 3 = pc') (ha : a < n) (hc : h a = ax_obj ci fs) (hv : fs[k]? = some v)
    (kk : AX G l M d pc' ls (v :: st) n z h n' z' Q) : AX G l M d pc ls (.ref a :: st) n z h n' z' Q := by
  subst hp
  obtain ⟨C, T, N, ty0, h1, h2, h3, h4, h5, h6, h7, h8, h9⟩ := hF
  refine ax_go (fun p e s m args below meth c R H locs cells slots la Q' hx hb hL hown hK hS hR w => ?_) kk
  have he : (ax_w G n h)[a]? = some (ax_gB G + a, .inr (ci, fs.map (ax_v G))) := by rw [ax_w_get ha, hc]; rfl
  have hv' : (fs.map (ax_v G))[k]? = some (ax_v G v) := by rw [List.getElem?_map, hv]; rfl
  rcases h9 with h9 | ⟨host, h9⟩
  · exact va_get hx hb (ax_lays hK.1 h2) (fun _ q => q) hown hK.2.1 hR.1 a he h1 k h5 (hK.1.use h9 rfl) (fun _ q => q) hv' hd w
  · exact va_getN hx hb (ax_lays hK.1 h2) (fun _ q => q) hown hK.2.1 hR.1 a he h1 k h5 (hK.1.use h9 rfl) (fun _ q => q) hv' hd w
theorem ax_put {a idx ci k : Nat} {ty : FieldType} {fs : List Value} {v : Value} (hF : ax_F M.1.cls idx ci k ty false) (hd : decode M.2.1 pc = .ok (.putfield idx, 3)) (hp : pc + 3 = pc') (ha : a < n) (hc : h a = ax_obj ci fs) (hl : k < fs.length) (hn : narrow ty (ax_v G v) = ax_v G v) (hfit : fits ty (ax_v G v) = true)
    (kk : AX G l M d pc' ls st n z (va_up h a (ax_obj ci (fs.set k v))) n' z' Q) : AX G l M d pc ls (v :: .ref a :: st) n z h n' z' Q := by
  subst hp
  obtain ⟨C, T, N, ty0, h1, h2, h3, h4, h5, h6, h7, h8, h9⟩ := hF
  intro p e s m args below meth c R H locs cells slots la C0 hd' hlo hn' hz hcl hsl hR hS hL
  obtain ⟨hx, hb, -, -, hown, -, -, hK⟩ := id C0
  have hts := ax_lays (args := args) hK.1 h2
  have hap := va_apart (own := M.1.cls) hts (fun _ q => q) ty0 h3 h4 hK.2.1 h1
  have he : (ax_w G n h)[a]? = some (ax_gB G + a, .inr (ci, fs.map (ax_v G))) := by rw [ax_w_get ha, hc]; rfl
  obtain ⟨r, g1, cell, q1, q2, q3, q4⟩ := hR.1 a _ he
  have hr : r = (C, T, N) := Option.some.inj (g1.symm.trans h1)
  subst hr
  obtain ⟨hSl, hfc, kC, hkC, hkind⟩ := hK.2.1.1 ci _ h1
  obtain ⟨cf, kf, fi, f, hi, hsl'⟩ := hSl k h5
  have hlay := hts _ (u_in_lay h5)
  unfold u_lay at hlay
  rw [if_neg (by rw [h7]; decide)] at hlay
  have hst := (u_facts hfc hkC (u_lays hts (fun _ q => q) h5) hi).1
  have h6' := u_store hfc hkC hkind hlay hi (h3 k h5) (by rw [h6]; exact hn) (by rw [h6]; exact hfit)
  have fin : ∀ H' : Heap, H'[ax_gB G + a]? = some (cell.setSlot f.slot (ax_v G v)) → H'.size = H.size → (∀ q, q ≠ ax_gB G + a → H'[q]? = H[q]?) → W p l e R s m args below meth c H' (locs ++ [⟨ax_gB G + a, f.slot⟩]) cells slots (MQ below (ax_Qc G n' Q) args s (cells + (n' - n)) (slots + (z' - z)) (ax_A G)) (F0 m (pc + 3) la (st.map (ax_v G))) := by
    intro H' e1 e2 e3
    rw [hsl'] at e1
    refine kk p e s m args below meth c R H' _ cells slots la C0 hd' hlo hn' hz hcl hsl (hR.put ha ?_ e2 e3) (hS.put e2 e3 (Nat.le_add_right _ _)) hL
    show va_at (ax_gD G) vwCl (ax_gB G + a, .inr (ci, (fs.set k v).map (ax_v G))) H'
    rw [List.map_set]
    exact ⟨_, h1, t_OB.to (V := updV (vp_V (fs.map (ax_v G))) k (ax_v G v)) ⟨_, e1, q2, q3, t_set q4 hap h5 (ax_v G v)⟩ (fun j _ => vp_updV_set (by rw [List.length_map]; exact hl) (ax_v G v) j)⟩
  rcases h9 with h9 | ⟨host, h9⟩
  · exact W.putK hx hb (f := f) ⟨hown, hK.1.use h9 rfl, ⟨_, _, _, hi⟩, hst⟩ (by rw [q2]; exact h6') q1 q3 (by rw [hsl']; exact k2_hasslot (q4 k h5)) rfl rfl hd fin
  · exact va_WputK hx hb (f := f) hown (hK.1.use h9 rfl) hi hst (by rw [q2]; exact h6') q1 q3 (by rw [hsl']; exact k2_hasslot (q4 k h5)) rfl rfl hd fin
/-- a final field, in its own constructor -/
theorem ax_putF {a idx ci k : Nat} {ty : FieldType} {fs : List Value} {v : Value} (hF : ax_F M.1.cls idx ci k ty true) (hnest : ∃ (C : String) (T : u_T) (N : Nat), vwCl[ci]? = some (C, T, N) ∧ C = M.1.cls ∧ Cond.fieldLink M.1.cls idx (T k).1 (T k).2.1 (T k).2.2.1 ∈ lw_tbl) (hin : M.1.name = "<init>") (hd : decode M.2.1 pc = .ok (.putfield idx, 3)) (hp : pc + 3 = pc') (ha : a < n) (hc : h a = ax_obj ci fs) (hl : k < fs.length) (hn : narrow ty (ax_v G v) = ax_v G v) (hfit : fits ty (ax_v G v) = true)
    (kk : AX G l M d pc' ls st n z (va_up h a (ax_obj ci (fs.set k v))) n' z' Q) : AX G l M d pc ls (v :: .ref a :: st) n z h n' z' Q := by
  subst hp
  obtain ⟨C, T, N, ty0, h1, h2, h3, h4, h5, h6, h7, h8, -⟩ := hF
  obtain ⟨C', T', N', k1, k2, h9⟩ := hnest
  have heq : (C', T', N') = (C, T, N) := Option.some.inj (k1.symm.trans h1)
  cases heq
  intro p e s m args below meth c R H locs cells slots la C0 hd' hlo hn' hz hcl hsl hR hS hL
  obtain ⟨hx, hb, -, -, hown, -, hname, hK⟩ := id C0
  have hts := ax_lays (args := args) hK.1 h2
  have hap := va_apart (own := M.1.cls) hts (fun _ q => q) ty0 h3 h4 hK.2.1 h1
  have he : (ax_w G n h)[a]? = some (ax_gB G + a, .inr (ci, fs.map (ax_v G))) := by rw [ax_w_get ha, hc]; rfl
  obtain ⟨r, g1, cell, q1, q2, q3, q4⟩ := hR.1 a _ he
  have hr : r = (C, T, N) := Option.some.inj (g1.symm.trans h1)
  subst hr
  obtain ⟨hSl, hfc, kC, hkC, hkind⟩ := hK.2.1.1 ci _ h1
  obtain ⟨cf, kf, fi, f, hi, hsl'⟩ := hSl k h5
  have hlay := hts _ (u_in_lay h5)
  unfold u_lay at hlay
  rw [if_pos h7] at hlay
  have hst := (u_facts hfc hkC (u_lays hts (fun _ q => q) h5) hi).1
  have hcf : m.cls = cf := by
    obtain ⟨_, _, c', _, _, _, -, -, hf', -, -, -, hown2, -⟩ := Cond.laysFinal_spec hlay
    have e1 : c' = cf := by have := hi.symm.trans hf'; simp at this; exact this.1.symm
    rw [h8, k2] at hown2
    rw [← e1]; exact Option.some.inj (hown.symm.trans hown2)
  have h6' := u_fits hfc hkC hkind (Or.inr hlay) hi (h3 k h5) (by rw [h6]; exact hn) (by rw [h6]; exact hfit)
  refine W.putFinK hx hb hown (hK.1.use h9 rfl) hi hst hcf (hname.trans hin) (by rw [q2]; exact h6') q1 q3 (by rw [hsl']; exact k2_hasslot (q4 k h5)) rfl rfl hd (fun H' e1 e2 e3 => ?_)
  rw [hsl'] at e1
  refine kk p e s m args below meth c R H' _ cells slots la C0 hd' hlo hn' hz hcl hsl (hR.put ha ?_ e2 e3) (hS.put e2 e3 (Nat.le_add_right _ _)) hL
  show va_at (ax_gD G) vwCl (ax_gB G + a, .inr (ci, (fs.set k v).map (ax_v G))) H'
  rw [List.map_set]
  exact ⟨_, h1, t_OB.to (V := updV (vp_V (fs.map (ax_v G))) k (ax_v G v)) ⟨_, e1, q2, q3, t_set q4 hap h5 (ax_v G v)⟩ (fun j _ => vp_updV_set (by rw [List.length_map]; exact hl) (ax_v G v) j)⟩
/-- arrays -/
theorem ax_iald {a N : Nat} {f : Nat → Int32} {i : Int32} (hd : decode M.2.1 pc = .ok (.iaload, 1)) (hp : pc + 1 = pc') (ha : a < n) (hc : h a = ax_arr 0 N f) (hin : vp_in i N)
    (kk : AX G l M d pc' ls (.int (f i.toNatClampNeg) :: st) n z h n' z' Q) : AX G l M d pc ls (.int i :: .ref a :: st) n z h n' z' Q := by
  subst hp
  refine ax_go (fun p e s m args below meth c R H locs cells slots la Q' hx hb hL hown hK hS hR w => ?_) kk
  exact va_iald hx hb hK.2.1 hR.1 a 0 (by rw [ax_w_get ha, hc]; rfl) rfl hin hd w
theorem ax_zald {a N : Nat} {f : Nat → Int32} {i : Int32} (hd : decode M.2.1 pc = .ok (.baload, 1)) (hp : pc + 1 = pc') (ha : a < n) (hc : h a = ax_arr 1 N f) (hin : vp_in i N)
    (kk : AX G l M d pc' ls (.int (f i.toNatClampNeg) :: st) n z h n' z' Q) : AX G l M d pc ls (.int i :: .ref a :: st) n z h n' z' Q := by
  subst hp
  refine ax_go (fun p e s m args below meth c R H locs cells slots la Q' hx hb hL hown hK hS hR w => ?_) kk
  exact va_zald hx hb hK.2.1 hR.1 a 1 (by rw [ax_w_get ha, hc]; rfl) rfl hin hd w
theorem ax_aald {a N b : Nat} {f : Nat → Option Nat} {i : Int32} (hd : decode M.2.1 pc = .ok (.aaload, 1)) (hp : pc + 1 = pc') (ha : a < n) (hc : h a = ax_arq N f) (hin : vp_in i N) (hf : f i.toNatClampNeg = some b)
    (kk : AX G l M d pc' ls (.ref b :: st) n z h n' z' Q) : AX G l M d pc ls (.int i :: .ref a :: st) n z h n' z' Q := by
  subst hp
  refine ax_go (fun p e s m args below meth c R H locs cells slots la Q' hx hb hL hown hK hS hR w => ?_) kk
  refine va_aldq hx hb hK.2.1 hR.1 a 2 (C := RX5) (by rw [ax_w_get ha, hc]; rfl) rfl hin hd ?_
  dsimp only
  rw [hf]
  exact w
theorem ax_alen {a N : Nat} {t : Nat} {f : Nat → Int32} (hd : decode M.2.1 pc = .ok (.arraylength, 1)) (hp : pc + 1 = pc') (ht : t < 2) (ha : a < n) (hc : h a = ax_arr t N f)
    (kk : AX G l M d pc' ls (.int (Int32.ofNat N) :: st) n z h n' z' Q) : AX G l M d pc ls (.ref a :: st) n z h n' z' Q := by
  subst hp
  refine ax_go (fun p e s m args below meth c R H locs cells slots la Q' hx hb hL hown hK hS hR w => ?_) kk
  have h2 : t = 0 ∨ t = 1 := by omega
  rcases h2 with rfl | rfl
  · exact va_alen hx hb hK.2.1 hR.1 a 0 (cA := ax_gA G 0) (x := (N, .inl f)) (ty := .int) (by rw [ax_w_get ha, hc]; rfl) rfl rfl hd w
  · exact va_alen hx hb hK.2.1 hR.1 a 1 (cA := ax_gA G 1) (x := (N, .inl f)) (ty := .boolean) (by rw [ax_w_get ha, hc]; rfl) rfl rfl hd w
theorem ax_sld {x : UInt64} {i : Int32} (hd : decode M.2.1 pc = .ok (.iaload, 1)) (hp : pc + 1 = pc') (hin : vp_in i (ax_gL G))
    (kk : AX G l M d pc' ls (.int (ax_gX G i.toNatClampNeg) :: st) n z h n' z' Q) : AX G l M d pc ls (.int i :: .double x :: st) n z h n' z' Q := by
  subst hp
  refine ax_go (fun p e s m args below meth c R H locs cells slots la Q' hx hb hL hown hK hS hR w => ?_) kk
  obtain ⟨-, -, -, hX, hbB, hB⟩ := hK
  exact va_sld hx hb hX (Nat.lt_of_lt_of_le hbB hB) (Nat.not_le.mpr hbB) hS hin hd w
theorem ax_slen {x : UInt64} (hd : decode M.2.1 pc = .ok (.arraylength, 1)) (hp : pc + 1 = pc')
    (kk : AX G l M d pc' ls (.int (Int32.ofNat (ax_gL G)) :: st) n z h n' z' Q) : AX G l M d pc ls (.double x :: st) n z h n' z' Q := by
  subst hp
  refine ax_go (fun p e s m args below meth c R H locs cells slots la Q' hx hb hL hown hK hS hR w => ?_) kk
  obtain ⟨-, -, -, hX, hbB, hB⟩ := hK
  exact va_slen hx hb hX (Nat.lt_of_lt_of_le hbB hB) (Nat.not_le.mpr hbB) hS hd w
theorem ax_iast {a N : Nat} {f : Nat → Int32} {i x : Int32} (hd : decode M.2.1 pc = .ok (.iastore, 1)) (hp : pc + 1 = pc') (ha : a < n) (hc : h a = ax_arr 0 N f) (hin : vp_in i N)
    (kk : AX G l M d pc' ls st n z (va_up h a (ax_arr 0 N (upd f i.toNatClampNeg x))) n' z' Q) : AX G l M d pc ls (.int x :: .int i :: .ref a :: st) n z h n' z' Q := by
  subst hp
  intro p e s m args below meth c R H locs cells slots la C0 hd' hlo hn' hz hcl hsl hR hS hL
  obtain ⟨hx, hb, -, -, hown, -, -, hK⟩ := id C0
  have he : (ax_w G n h)[a]? = some (ax_gB G + a, .inl (ax_gA G 0, N, .inl f)) := by rw [ax_w_get ha, hc]; rfl
  refine W.iast hx hb (hR.1 a _ he) ((hK.2.1.2 0 _ rfl).1 N (fun j => .int (f j))) (fun q => by cases q) (by show ¬ (i < 0 ∨ (arrV _ _ _).slots.size ≤ _); rw [arrV_size]; exact hin) rfl rfl hd fun H1 e1 z1 oq => ?_
  refine kk p e s m args below meth c R H1 _ cells slots la C0 hd' hlo hn' hz hcl hsl (hR.put ha ?_ z1 oq) (hS.put z1 oq (Nat.le_add_right _ _)) hL
  show H1[ax_gB G + a]? = some (vp_cell _ _)
  rw [e1]
  show some ((arrV _ _ _).setSlot _ _) = some (vp_cell _ (_, .inl _))
  rw [vp_cell_i, arrV_store]
  congr 2
  funext q
  by_cases hq : q = i.toNatClampNeg
  · subst hq
    simp [updV, upd]
  · simp [updV, upd, hq]
theorem ax_zast {a N : Nat} {f : Nat → Int32} {i x : Int32} (hd : decode M.2.1 pc = .ok (.bastore, 1)) (hp : pc + 1 = pc') (ha : a < n) (hc : h a = ax_arr 1 N f) (hin : vp_in i N) (hn : narrow .boolean (.int x) = .int x)
    (kk : AX G l M d pc' ls st n z (va_up h a (ax_arr 1 N (upd f i.toNatClampNeg x))) n' z' Q) : AX G l M d pc ls (.int x :: .int i :: .ref a :: st) n z h n' z' Q := by
  subst hp
  intro p e s m args below meth c R H locs cells slots la C0 hd' hlo hn' hz hcl hsl hR hS hL
  obtain ⟨hx, hb, -, -, hown, -, -, hK⟩ := id C0
  have he : (ax_w G n h)[a]? = some (ax_gB G + a, .inl (ax_gA G 1, N, .inl f)) := by rw [ax_w_get ha, hc]; rfl
  refine W.zast hx hb (hR.1 a _ he) ((hK.2.1.2 1 _ rfl).1 N (fun j => .int (f j))) (fun q => by cases q) (by show ¬ (i < 0 ∨ (arrV _ _ _).slots.size ≤ _); rw [arrV_size]; exact hin) rfl rfl hd fun H1 e1 z1 oq => ?_
  refine kk p e s m args below meth c R H1 _ cells slots la C0 hd' hlo hn' hz hcl hsl (hR.put ha ?_ z1 oq) (hS.put z1 oq (Nat.le_add_right _ _)) hL
  rw [hn] at e1
  show H1[ax_gB G + a]? = some (vp_cell _ _)
  rw [e1]
  show some ((arrV _ _ _).setSlot _ _) = some (vp_cell _ (_, .inl _))
  rw [vp_cell_i, arrV_store]
  congr 2
  funext q
  by_cases hq : q = i.toNatClampNeg
  · subst hq
    simp [updV, upd]
  · simp [updV, upd, hq]
end AXH
end
section
/-! ===== entry, return, calls, new cells, arraycopy ===== -/
def ax_ent : List Value → List Value
  | [] => []
  | .long x :: vs => .long x :: .float 0 :: ax_ent vs
  | v :: vs => v :: ax_ent vs
theorem ax_ent_args {G : ax_G} : ∀ (vs : List Value) (i k : Nat) (v : Value), (ax_ent vs)[k]? = some v → ax_nf v = true → (i + k, ax_v G v) ∈ lv_args i (vs.map (ax_v G))
  | [], i, k, v, h, _ => by simp [ax_ent] at h
  | w :: vs, i, k, v, h, hn => by
    have small : ∀ (hw : ax_sm w = true), ax_ent (w :: vs) = w :: ax_ent vs := by
      intro hw
      cases w <;> first | rfl | (simp [ax_sm] at hw)
    by_cases hw : ax_sm w = true
    · rw [small hw] at h
      have hc : ¬ (ax_v G w).category = 2 := by rw [ax_cat1 hw]; decide
      rw [List.map_cons]
      show _ ∈ (i, ax_v G w) :: lv_args (if (ax_v G w).category = 2 then i + 2 else i + 1) (vs.map (ax_v G))
      rw [if_neg hc]
      cases k with
      | zero =>
        rw [List.getElem?_cons_zero] at h
        cases h
        exact List.mem_cons_self
      | succ k =>
        rw [List.getElem?_cons_succ] at h
        have := ax_ent_args (G := G) vs (i + 1) k v h hn
        rw [show i + 1 + k = i + (k + 1) by omega] at this
        exact List.mem_cons_of_mem _ this
    · cases w with
      | long x =>
        rw [List.map_cons]
        show _ ∈ (i, Value.long x) :: lv_args (i + 2) (vs.map (ax_v G))
        change (Value.long x :: .float 0 :: ax_ent vs)[k]? = some v at h
        match k, h with
        | 0, h =>
          rw [List.getElem?_cons_zero] at h
          cases h
          exact List.mem_cons_self
        | 1, h =>
          rw [List.getElem?_cons_succ, List.getElem?_cons_zero] at h
          cases h
          simp [ax_nf] at hn
        | k + 2, h =>
          rw [List.getElem?_cons_succ, List.getElem?_cons_succ] at h
          have := ax_ent_args (G := G) vs (i + 2) k v h hn
          rw [show i + 2 + k = i + (k + 2) by omega] at this
          exact List.mem_cons_of_mem _ this
      | _ => exact absurd rfl hw
theorem ax_ent_len {G : ax_G} : ∀ (vs : List Value), (lg_sl (vs.map (ax_v G))).length = (ax_ent vs).length
  | [] => rfl
  | w :: vs => by
    have ih := ax_ent_len (G := G) vs
    cases w <;> simp [lg_sl, ax_v, Value.category, ax_ent] at ih ⊢ <;> omega
theorem ax_F_blind {G : ax_G} {n : Nat} {h : ax_H} {as : List Value} : FrameBlind (fun a U => a = (as.map (ax_v G)).toArray ∧ ax_R G n h U.heap ∧ ax_K G U) := fun a U g mk q => ⟨q.1, q.2.1, q.2.2.blind g mk a⟩
section AXC
variable {G : ax_G} {l : Launch} {M : ax_M} {d pc pc' : Nat} {ls st : List Value} {n z : Nat} {h : ax_H} {n' z' : Nat} {Q : Option Value → ax_H → Prop}
theorem ax_start {as : List Value} (hp : plainName M.1.cls = true) (hlen : (ax_ent as).length ≤ M.2.2.1) (hn : n ≤ n') (hz : z ≤ z') {u : Nat} (hls : ax_ent as ++ List.replicate u (.float 0) = ls)
    (k : AX G l M d 0 ls [] n z h n' z' Q) : AC G l d M as n z h n' z' Q := by
  refine ⟨⟨hn, hz⟩, ?_⟩
  refine Met.ofW (cc := M.2.1) (maxL := M.2.2.1) (ret := M.2.2.2) hp rfl ?_
  intro p e s m args below meth c s₁ B hml hv
  obtain ⟨rfl, hR, hK⟩ := hv
  have hL := lv_entry (as.map (ax_v G)) (n := M.2.2.1) (by rw [ax_ent_len]; exact hlen)
  rw [lg_entry_eq]
  generalize (lg_sl (as.map (ax_v G)) ++ List.replicate (M.2.2.1 - (lg_sl (as.map (ax_v G))).length) Slot.unset).toArray = la at hL ⊢
  have hL' : ax_L G la M.2.2.1 ls := by
    refine ⟨hL.1, hL.2.1, fun k v hk hn => ?_⟩
    rw [← hls] at hk
    by_cases hkl : k < (ax_ent as).length
    · rw [List.getElem?_append_left hkl] at hk
      have := ax_ent_args (G := G) as 0 k v hk hn
      rw [Nat.zero_add] at this
      exact hL.2.2 _ this
    · rw [List.getElem?_append_right (by omega)] at hk
      have h1 := List.mem_of_getElem? hk
      rw [List.eq_of_mem_replicate h1] at hn
      simp [ax_nf] at hn
  have w := k p e s m (as.map (ax_v G)).toArray below meth c (headSpec [Cond.code M.1 M.2.1 M.2.2.1 M.2.2.2] { frames := d, cells := n' - n, slots := z' - z, locals := 35 * d }).room s.heap [] 0 0 la
    ⟨B.exec, B.bytes, hml, B.returns, findClass_of_methodNamed B.named, B.notSynchronized, (name_of_methodNamed B.named B.method).1, hK⟩ (Nat.le_refl _) (Nat.le_refl _) hn hz (by rw [Nat.zero_add]; exact Nat.le_refl _) (by rw [Nat.zero_add]; exact Nat.le_refl _) hR va_S.rf hL'
  rw [Nat.zero_add, Nat.zero_add] at w
  exact w
/-- returns -/
theorem ax_ret_aux {r : Option Value} {s t : State} {H : Heap} {locs : List Loc} (hq : Q r h) (hR : ax_R G n h H) (hS : va_S (ax_A G) s.heap H locs) (ht : t.heap = H) (args : Array Value) : ax_Qc G n Q args s (.returned (r.map (ax_v G))) t :=
  ⟨⟨r, h, rfl, hq, by rw [ht]; exact hR⟩, hS.F ht⟩
theorem ax_ireturn {x : Int32} (hr : M.2.2.2 = some .int) (hd : decode M.2.1 pc = .ok (.ireturn, 1)) (hq : Q (some (.int x)) h) : AX G l M d pc ls [.int x] n z h n z Q := by
  intro p e s m args below meth c R H locs cells slots la C0 hd' hlo hn' hz hcl hsl hR hS hL
  obtain ⟨hx, hb, -, hret, hown, hlk, -, hK⟩ := id C0
  rw [Nat.sub_self, Nat.add_zero, Nat.sub_self, Nat.add_zero]
  exact W.iret (v := x) hx hb (hret.trans hr) (fun t ht _ => ax_ret_aux (r := some (.int x)) hq hR hS ht args) hS.2.2 hd hlk
theorem ax_zreturn {x : Int32} (hr : M.2.2.2 = some .boolean) (hd : decode M.2.1 pc = .ok (.ireturn, 1)) (hn : narrow .boolean (.int x) = .int x) (hq : Q (some (.int x)) h) : AX G l M d pc ls [.int x] n z h n z Q := by
  intro p e s m args below meth c R H locs cells slots la C0 hd' hlo hn' hz hcl hsl hR hS hL
  obtain ⟨hx, hb, -, hret, hown, hlk, -, hK⟩ := id C0
  rw [Nat.sub_self, Nat.add_zero, Nat.sub_self, Nat.add_zero]
  exact W.zret (v := x) hx hb (hret.trans hr) hn (fun t ht _ => ax_ret_aux (r := some (.int x)) hq hR hS ht args) hS.2.2 hd hlk
theorem ax_vreturn (hr : M.2.2.2 = none) (hd : decode M.2.1 pc = .ok (.return_, 1)) (hq : Q none h) : AX G l M d pc ls [] n z h n z Q := by
  intro p e s m args below meth c R H locs cells slots la C0 hd' hlo hn' hz hcl hsl hR hS hL
  obtain ⟨hx, hb, -, hret, hown, hlk, -, hK⟩ := id C0
  rw [Nat.sub_self, Nat.add_zero, Nat.sub_self, Nat.add_zero]
  exact W.vret hx hb (hret.trans hr) (fun t ht _ => ax_ret_aux (r := none) hq hR hS ht args) hS.2.2 hd hlk
theorem ax_areturn {v : Value} {rt : FieldType} (hr : M.2.2.2 = some rt) (hrt : (∃ n, rt = .object n) ∨ ∃ t, rt = .array t) (hv : v = .null ∨ ∃ a, v = .ref a) (hd : decode M.2.1 pc = .ok (.areturn, 1)) (hq : Q (some v) h) : AX G l M d pc ls [v] n z h n z Q := by
  intro p e s m args below meth c R H locs cells slots la C0 hd' hlo hn' hz hcl hsl hR hS hL
  obtain ⟨hx, hb, -, hret, hown, hlk, -, hK⟩ := id C0
  rw [Nat.sub_self, Nat.add_zero, Nat.sub_self, Nat.add_zero]
  refine W.aret (v := ax_v G v) hx hb (hret.trans hr) hrt ?_ (fun t ht _ => ax_ret_aux (r := some v) hq hR hS ht args) hS.2.2 hd hlk
  rcases hv with rfl | ⟨a, rfl⟩
  · exact Or.inl rfl
  · exact Or.inr ⟨_, rfl⟩
/-- behind a call -/
theorem ax_behind {M' : ax_M} {Q1 : Option Value → ax_H → Prop} {n1 z1 : Nat} {p : Program} {e : Env} {R : Room} {s : State} {m : MethodId} {args av : Array Value} {below : List Frame} {meth : Method} {c : Code} {H : Heap} {locs : List Loc} {cells slots : Nat} {la : Array Slot} {st0 : List Value} {Q' : State → Prop}
    (hr : va_Run p l e R s m args below meth c H locs cells slots (n1 - n) (z1 - z) (F0 m pc la st0) (st.map (ax_v G)) (ax_Qc G n1 Q1 av) (ax_A G)) (hS : va_S (ax_A G) s.heap H locs)
    (kk : ∀ (r : Option Value) (h1 : ax_H) (H1 : Heap) (locs1 : List Loc), Q1 r h1 → ax_R G n1 h1 H1 → va_S (ax_A G) s.heap H1 locs1 → W p l e R s m args below meth c H1 locs1 (cells + (n1 - n)) (slots + (z1 - z)) Q' (F0 m (pc + 3) la ((r.toList ++ st).map (ax_v G)))) : W p l e R s m args below meth c H locs cells slots Q' (F0 m pc la st0) := by
  intro T hT X
  obtain ⟨v, st₀, t, T', L, h0, X', hL, e1, e2, ⟨⟨r, h1, hv, hq, hR1⟩, hz, hk⟩, stp⟩ := hr T hT X
  cases hv
  rw [h0] at hz hk
  obtain ⟨t2, a1, b1⟩ := kk r h1 T'.heap (locs ++ L) hq (by rw [e1]; exact hR1) ⟨Nat.le_trans hS.1 (by rw [e1]; exact hz), fun q g1 g2 => by rw [e1, hk q (Nat.lt_of_lt_of_le g1 hS.1) g2]; exact hS.2.1 q g1 g2, fun q hq => by
      rcases List.mem_append.mp hq with g | g
      · exact hS.2.2 q g
      · exact hL q g⟩ T' rfl X'
  refine ⟨t2, stp t2 ?_, b1⟩
  have e3 : ((r.toList ++ st).map (ax_v G)) = (r.map (ax_v G)).toList ++ st.map (ax_v G) := by cases r <;> simp
  rw [e3] at a1
  exact a1
/-- what a callee is: its code in the tables, how many arguments -/
def ax_MK (M' : ax_M) (k : Nat) : Prop := Cond.code M'.1 M'.2.1 M'.2.2.1 M'.2.2.2 ∈ lw_tbl ∧ Cond.initialized M'.1.cls ∈ lw_tbl ∧ (M'.1.cls ≠ "java/lang/invoke/MethodHandle" ∧ M'.1.cls ≠ "java/lang/invoke/VarHandle" ∧ (parseMethodDescriptor M'.1.desc).map (fun d => d.parameters.length) = some k) ∧ M'.2.2.1 ≤ 16
def ax_MS (M' : ax_M) (k : Nat) : Prop := ax_MK M' k ∧ Cond.static M'.1 ∈ lw_tbl
def ax_MV (M' : ax_M) (k : Nat) : Prop := ax_MK M' k ∧ Cond.instanceMethod M'.1 ∈ lw_tbl ∧ Cond.selects M'.1.cls M'.1 M'.1 ∈ lw_tbl
def ax_MI (M' : ax_M) (k : Nat) : Prop := ax_MK M' k ∧ Cond.instanceMethod M'.1 ∈ lw_tbl ∧ M'.1.name = "<init>" ∧ M'.2.2.2 = none
def ax_LK (own : String) (idx : Nat) (M' : ax_M) : Prop := Cond.methodLink own idx M'.1 ∈ lw_tbl ∨ ∃ host, Cond.methodLinkNest own idx M'.1 host ∈ lw_tbl
theorem ax_sum {G : ax_G} : ∀ st : List Value, ((st.map (ax_v G)).map fun v => v.category).sum ≤ 2 * st.length
  | [] => by simp
  | v :: st => by
    have := ax_sum (G := G) st
    have h2 : (ax_v G v).category ≤ 2 := by rcases lv_cat (ax_v G v) with q | q <;> omega
    simp only [List.map_cons, List.sum_cons, List.length_cons]
    omega
theorem ax_pre {s : State} {H : Heap} {as : List Value} {locs : List Loc} (hK : ax_K G s) (hR : ax_R G n h H) (hS : va_S (ax_A G) s.heap H locs) : ∀ U : State, U.heap = H → s.WarmedH U.vm → ((as.map (ax_v G)).toArray = (as.map (ax_v G)).toArray ∧ ax_R G n h U.heap ∧ ax_K G U) :=
  fun U hU hW => ⟨rfl, by rw [hU]; exact hR, hK.to (locs := locs) hW (by rw [hU]; exact hS)⟩
theorem ax_words {M' : ax_M} {s : State} (hT : ax_T s) (hm : Cond.code M'.1 M'.2.1 M'.2.2.1 M'.2.2.2 ∈ lw_tbl) : ∀ w ∈ [Cond.code M'.1 M'.2.1 M'.2.2.1 M'.2.2.2], ∀ (a' : Array Value) (U : State), s.WarmedH U.vm → w.before a' U = true := by
  intro w hw a' U hW
  rw [List.mem_singleton.mp hw]
  exact (hT.warm hW).use hm rfl
theorem ax_callS {M' : ax_M} {k idx d' n1 z1 : Nat} {as : List Value} {Q1 : Option Value → ax_H → Prop} (hM : ax_MS M' k) (hl : ax_LK M.1.cls idx M') (hd : decode M.2.1 pc = .ok (.invokestatic idx, 3)) (hp : pc + 3 = pc') (hk : as.length = k) (hst : 2 * st.length ≤ 8) (hdd : d' + 1 ≤ d) (hn1 : n1 ≤ n') (hz1 : z1 ≤ z')
    (hc : AC G l d' M' as n z h n1 z1 Q1) (kk : ∀ (r : Option Value) (h1 : ax_H), Q1 r h1 → AX G l M d pc' ls (r.toList ++ st) n1 z1 h1 n' z' Q) : AX G l M d pc ls (as.reverse ++ st) n z h n' z' Q := by
  subst hp
  intro p e s m args below meth c R H locs cells slots la C0 hd' hlo hn' hz hcl hsl hR hS hL
  obtain ⟨hx, hb, hml, -, hown, -, -, hK⟩ := id C0
  obtain ⟨⟨hcode, hini, hpar, hmx⟩, hsta⟩ := hM
  obtain ⟨⟨hnn, hzz⟩, hMet⟩ := hc
  have ok : ∀ {w : Cond}, w ∈ lw_tbl → ax_ok w = true → w.before args s = true := fun hm ho => hK.1.use hm ho
  have hstk : (as.reverse ++ st).map (ax_v G) = (as.map (ax_v G)).reverse ++ st.map (ax_v G) := by rw [List.map_append, List.map_reverse]
  have hlen : ∀ sig, parseMethodDescriptor M'.1.desc = some sig → k = sig.parameters.length := fun sig q => by
    have h2 := hpar.2.2
    rw [q] at h2
    exact (Option.some.inj h2).symm
  have hroom : 35 * d' + 35 ≤ 35 * d := by omega
  have hrun : va_Run p l e R s m args below meth c H locs cells slots (n1 - n) (z1 - z) (F0 m pc la ((as.reverse ++ st).map (ax_v G))) (st.map (ax_v G)) (ax_Qc G n1 Q1 (as.map (ax_v G)).toArray) (ax_A G) := by
    rcases hl with hl | ⟨host, hl⟩
    · exact va_runS (Ts := []) (nL := M.2.2.1) (bytes := M'.2.1) (maxL := M'.2.2.1) (ret := M'.2.2.2) ⟨hx, hb, hml, hown, fun w hw => by cases hw⟩ hMet ⟨⟨rfl, rfl, by show d' + 1 ≤ R.frames; omega, by show 8 + (M'.2.2.1 + 11) + 35 * d' ≤ R.locals; omega, ax_words hK.1 hcode, List.mem_cons_self, ok hcode rfl, ok hini rfl, ⟨hpar.1, hpar.2.1⟩, hlen, ok hl rfl⟩, ok hsta rfl⟩ ⟨ax_F_blind, ax_pre hK hR hS⟩ rfl (by rw [List.length_map]; exact hk) hL.1 hstk (lv_room (Nat.le_trans (ax_sum st) hst)) hd ⟨by omega, by omega⟩
    · exact va_runSN (Ts := []) (nL := M.2.2.1) (bytes := M'.2.1) (maxL := M'.2.2.1) (ret := M'.2.2.2) ⟨hx, hb, hml, hown, fun w hw => by cases hw⟩ hMet ⟨⟨⟨rfl, rfl, by show d' + 1 ≤ R.frames; omega, by show 8 + (M'.2.2.1 + 11) + 35 * d' ≤ R.locals; omega, ax_words hK.1 hcode, List.mem_cons_self⟩, ok hcode rfl, ok hini rfl, ⟨hpar.1, hpar.2.1⟩, hlen, ok hl rfl⟩, ok hsta rfl, trivial⟩ ⟨ax_F_blind, ax_pre hK hR hS⟩ rfl (by rw [List.length_map]; exact hk) hL.1 hstk (lv_room (Nat.le_trans (ax_sum st) hst)) hd ⟨by omega, by omega⟩
  refine ax_behind (M' := M') hrun hS (fun r h1 H1 locs1 hq hR1 hS1 => ?_)
  have w := kk r h1 hq p e s m args below meth c R H1 locs1 (cells + (n1 - n)) (slots + (z1 - z)) la C0 hd' hlo hn1 hz1 (by omega) (by omega) hR1 hS1 hL
  rw [show cells + (n1 - n) + (n' - n1) = cells + (n' - n) by omega, show slots + (z1 - z) + (z' - z1) = slots + (z' - z) by omega] at w
  exact w
theorem ax_callV {M' : ax_M} {k idx d' n1 z1 b ci : Nat} {fs as : List Value} {T : u_T} {N : Nat} {Q1 : Option Value → ax_H → Prop} (hM : ax_MV M' k) (hl : ax_LK M.1.cls idx M') (hd : decode M.2.1 pc = .ok (.invokevirtual idx, 3)) (hp : pc + 3 = pc') (hb : b < n) (hcb : h b = ax_obj ci fs) (hci : vwCl[ci]? = some (M'.1.cls, T, N)) (hk : as.length = k) (hst : 2 * st.length ≤ 8) (hdd : d' + 1 ≤ d) (hn1 : n1 ≤ n') (hz1 : z1 ≤ z')
    (hc : AC G l d' M' (.ref b :: as) n z h n1 z1 Q1) (kk : ∀ (r : Option Value) (h1 : ax_H), Q1 r h1 → AX G l M d pc' ls (r.toList ++ st) n1 z1 h1 n' z' Q) : AX G l M d pc ls (as.reverse ++ .ref b :: st) n z h n' z' Q := by
  subst hp
  intro p e s m args below meth c R H locs cells slots la C0 hd' hlo hn' hz hcl hsl hR hS hL
  obtain ⟨hx, hbc, hml, -, hown, -, -, hK⟩ := id C0
  obtain ⟨⟨hcode, hini, hpar, hmx⟩, hins, hsel⟩ := hM
  obtain ⟨⟨hnn, hzz⟩, hMet⟩ := hc
  have ok : ∀ {w : Cond}, w ∈ lw_tbl → ax_ok w = true → w.before args s = true := fun hm ho => hK.1.use hm ho
  have hstk : (as.reverse ++ .ref b :: st).map (ax_v G) = (as.map (ax_v G)).reverse ++ .ref (ax_gB G + b) :: st.map (ax_v G) := by rw [List.map_append, List.map_reverse]; rfl
  have hlen : ∀ sig, parseMethodDescriptor M'.1.desc = some sig → k = sig.parameters.length := fun sig q => by
    have h2 := hpar.2.2
    rw [q] at h2
    exact (Option.some.inj h2).symm
  have hrecv : ∃ cell : Cell, H[ax_gB G + b]? = some cell ∧ cell.vm.isStatics = false ∧ s.vm.findClass M'.1.cls = some cell.cls := va_recv hK.2.1 hR.1 (ci := ci) (q0 := b) (fs := fs.map (ax_v G)) hci (by rw [ax_w_get hb, hcb]; rfl)
  have hroom : 35 * d' + 35 ≤ 35 * d := by omega
  have hrun : va_Run p l e R s m args below meth c H locs cells slots (n1 - n) (z1 - z) (F0 m pc la ((as.reverse ++ .ref b :: st).map (ax_v G))) (st.map (ax_v G)) (ax_Qc G n1 Q1 (Value.ref (ax_gB G + b) :: as.map (ax_v G)).toArray) (ax_A G) := by
    rcases hl with hl | ⟨host, hl⟩
    · exact va_runV (C := M'.1.cls) (Ts := []) (nL := M.2.2.1) (bytes := M'.2.1) (maxL := M'.2.2.1) (ret := M'.2.2.2) ⟨hx, hbc, hml, hown, fun w hw => by cases hw⟩ hMet ⟨⟨rfl, rfl, by show d' + 1 ≤ R.frames; omega, by show 8 + (M'.2.2.1 + 11) + 35 * d' ≤ R.locals; omega, ax_words hK.1 hcode, List.mem_cons_self, ok hcode rfl, ok hini rfl, ⟨hpar.1, hpar.2.1⟩, hlen, ok hl rfl⟩, ok hins rfl, ok hsel rfl⟩ ⟨ax_F_blind, hrecv, ax_pre (as := .ref b :: as) hK hR hS⟩ rfl (by rw [List.length_map]; exact hk) hL.1 hstk (lv_room (Nat.le_trans (ax_sum st) hst)) hd ⟨by omega, by omega⟩
    · exact va_runVN (C := M'.1.cls) (Ts := []) (nL := M.2.2.1) (bytes := M'.2.1) (maxL := M'.2.2.1) (ret := M'.2.2.2) ⟨hx, hbc, hml, hown, fun w hw => by cases hw⟩ hMet ⟨⟨⟨rfl, rfl, by show d' + 1 ≤ R.frames; omega, by show 8 + (M'.2.2.1 + 11) + 35 * d' ≤ R.locals; omega, ax_words hK.1 hcode, List.mem_cons_self⟩, ok hcode rfl, ok hini rfl, ⟨hpar.1, hpar.2.1⟩, hlen, ok hl rfl⟩, ok hins rfl, ok hsel rfl⟩ ⟨ax_F_blind, hrecv, ax_pre (as := .ref b :: as) hK hR hS⟩ rfl (by rw [List.length_map]; exact hk) hL.1 hstk (lv_room (Nat.le_trans (ax_sum st) hst)) hd ⟨by omega, by omega⟩
  refine ax_behind (M' := M') hrun hS (fun r h1 H1 locs1 hq hR1 hS1 => ?_)
  have w := kk r h1 hq p e s m args below meth c R H1 locs1 (cells + (n1 - n)) (slots + (z1 - z)) la C0 hd' hlo hn1 hz1 (by omega) (by omega) hR1 hS1 hL
  rw [show cells + (n1 - n) + (n' - n1) = cells + (n' - n) by omega, show slots + (z1 - z) + (z' - z1) = slots + (z' - z) by omega] at w
  exact w
theorem ax_callI {M' : ax_M} {k idx d' n1 z1 b : Nat} {as : List Value} {Q1 : Option Value → ax_H → Prop} (hM : ax_MI M' k) (hl : ax_LK M.1.cls idx M') (hd : decode M.2.1 pc = .ok (.invokespecial idx, 3)) (hp : pc + 3 = pc') (hk : as.length = k) (hst : 2 * st.length ≤ 8) (hdd : d' + 1 ≤ d) (hn1 : n1 ≤ n') (hz1 : z1 ≤ z')
    (hc : AC G l d' M' (.ref b :: as) n z h n1 z1 Q1) (kk : ∀ (r : Option Value) (h1 : ax_H), Q1 r h1 → AX G l M d pc' ls (r.toList ++ st) n1 z1 h1 n' z' Q) : AX G l M d pc ls (as.reverse ++ .ref b :: st) n z h n' z' Q := by
  subst hp
  intro p e s m args below meth c R H locs cells slots la C0 hd' hlo hn' hz hcl hsl hR hS hL
  obtain ⟨hx, hbc, hml, -, hown, -, -, hK⟩ := id C0
  obtain ⟨⟨hcode, hini, hpar, hmx⟩, hins, hnm, hrn⟩ := hM
  obtain ⟨⟨hnn, hzz⟩, hMet⟩ := hc
  have ok : ∀ {w : Cond}, w ∈ lw_tbl → ax_ok w = true → w.before args s = true := fun hm ho => hK.1.use hm ho
  have hstk : (as.reverse ++ .ref b :: st).map (ax_v G) = (as.map (ax_v G)).reverse ++ .ref (ax_gB G + b) :: st.map (ax_v G) := by rw [List.map_append, List.map_reverse]; rfl
  have hlen : ∀ sig, parseMethodDescriptor M'.1.desc = some sig → k = sig.parameters.length := fun sig q => by
    have h2 := hpar.2.2
    rw [q] at h2
    exact (Option.some.inj h2).symm
  rw [hrn] at hcode
  rw [hrn] at hMet
  have hroom : 35 * d' + 35 ≤ 35 * d := by omega
  have hwd : ∀ w ∈ [Cond.code M'.1 M'.2.1 M'.2.2.1 none], ∀ (a' : Array Value) (U : State), s.WarmedH U.vm → w.before a' U = true := by
    intro w hw a' U hW
    rw [List.mem_singleton.mp hw]
    exact (hK.1.warm hW).use hcode rfl
  have hrun : va_Run p l e R s m args below meth c H locs cells slots (n1 - n) (z1 - z) (F0 m pc la ((as.reverse ++ .ref b :: st).map (ax_v G))) (st.map (ax_v G)) (ax_Qc G n1 Q1 (Value.ref (ax_gB G + b) :: as.map (ax_v G)).toArray) (ax_A G) := by
    rcases hl with hl | ⟨host, hl⟩
    · exact va_runI (Ts := []) (nL := M.2.2.1) (bytes := M'.2.1) (maxL := M'.2.2.1) ⟨hx, hbc, hml, hown, fun w hw => by cases hw⟩ hMet ⟨⟨rfl, rfl, by show d' + 1 ≤ R.frames; omega, by show 8 + (M'.2.2.1 + 11) + 35 * d' ≤ R.locals; omega, hwd, List.mem_cons_self, ok hcode rfl, ok hini rfl, ⟨hpar.1, hpar.2.1⟩, hlen, ok hl rfl⟩, hnm, ok hins rfl⟩ ⟨ax_F_blind, ax_pre (as := .ref b :: as) hK hR hS⟩ rfl (by rw [List.length_map]; exact hk) hL.1 hstk (lv_room (Nat.le_trans (ax_sum st) hst)) hd ⟨by omega, by omega⟩
    · exact va_runIN (Ts := []) (nL := M.2.2.1) (bytes := M'.2.1) (maxL := M'.2.2.1) ⟨hx, hbc, hml, hown, fun w hw => by cases hw⟩ hMet ⟨⟨⟨rfl, rfl, by show d' + 1 ≤ R.frames; omega, by show 8 + (M'.2.2.1 + 11) + 35 * d' ≤ R.locals; omega, hwd, List.mem_cons_self⟩, ok hcode rfl, ok hini rfl, ⟨hpar.1, hpar.2.1⟩, hlen, ok hl rfl⟩, hnm, ok hins rfl⟩ ⟨ax_F_blind, ax_pre (as := .ref b :: as) hK hR hS⟩ rfl (by rw [List.length_map]; exact hk) hL.1 hstk (lv_room (Nat.le_trans (ax_sum st) hst)) hd ⟨by omega, by omega⟩
  refine ax_behind (M' := M') hrun hS (fun r h1 H1 locs1 hq hR1 hS1 => ?_)
  have w := kk r h1 hq p e s m args below meth c R H1 locs1 (cells + (n1 - n)) (slots + (z1 - z)) la C0 hd' hlo hn1 hz1 (by omega) (by omega) hR1 hS1 hL
  rw [show cells + (n1 - n) + (n' - n1) = cells + (n' - n) by omega, show slots + (z1 - z) + (z' - z1) = slots + (z' - z) by omega] at w
  exact w
end AXC
end
section
/-! ===== new cells, arrays of references, arraycopy, Object.<init> ===== -/
theorem ax_ac {ty : FieldType} {a a' : Array Value} {U : State} (h : (Cond.arrayClass ty).before a U = true) : (Cond.arrayClass ty).before a' U = true := h
theorem ax_R.push {G : ax_G} {n : Nat} {h h1 : ax_H} {H H1 : Heap} (hR : ax_R G n h H) (hh : ∀ k, k < n → h1 k = h k) (hat : va_at (ax_gD G) vwCl (ax_gB G + n, ax_e G (h1 n)) H1) (z1 : H1.size = H.size + 1) (o1 : ∀ q : Nat, q < H.size → H1[q]? = H[q]?) : ax_R G (n + 1) h1 H1 := by
  refine ⟨fun k q hk => ?_, by rw [z1, hR.2]; omega⟩
  have hl : k < n + 1 := by
    have := (List.getElem?_eq_some_iff.mp hk).1
    rwa [ax_w_len] at this
  rw [ax_w_get hl] at hk
  cases hk
  by_cases hkn : k < n
  · rw [hh k hkn]
    exact (hR.1 k _ (ax_w_get hkn)).kept (o1 _ (by rw [hR.2]; exact Nat.add_lt_add_left hkn _))
  · have : k = n := by omega
    subst this
    exact hat
theorem ax_S_push {G : ax_G} {H0 H H1 : Heap} {locs : List Loc} (hS : va_S (ax_A G) H0 H locs) (z1 : H1.size = H.size + 1) (o1 : ∀ q : Nat, q < H.size → H1[q]? = H[q]?) : va_S (ax_A G) H0 H1 locs :=
  ⟨Nat.le_trans hS.1 (by omega), fun x h1 h2 => (o1 x (Nat.lt_of_lt_of_le h1 hS.1)).trans (hS.2.1 x h1 h2), hS.2.2⟩
def ax_N (own : String) (idx ci N : Nat) (fs : List Value) : Prop :=
  ∃ (C : String) (T : u_T) (ty0 : Nat → FieldType), vwCl[ci]? = some (C, T, N) ∧ (∀ w ∈ u_ws C T N, w ∈ lw_tbl) ∧ (∀ k, k < N → parseFieldDescriptor (T k).2.2.1 = some (ty0 k)) ∧ Cond.classLink own idx C ∈ lw_tbl ∧ Cond.instantiable C N ∈ lw_tbl ∧ Cond.initialized C ∈ lw_tbl ∧ ∀ j, j < N → defaultValue (ty0 j) = vp_V fs j
section AXN
variable {G : ax_G} {l : Launch} {M : ax_M} {d pc pc' : Nat} {ls st : List Value} {n z : Nat} {h : ax_H} {n' z' : Nat} {Q : Option Value → ax_H → Prop}
theorem ax_new {idx ci N : Nat} {fs : List Value} {h1 : ax_H} (hN : ax_N M.1.cls idx ci N fs) (hd : decode M.2.1 pc = .ok (.new idx, 3)) (hp : pc + 3 = pc') (hfm : fs.map (ax_v G) = fs) (hn1 : n + 1 ≤ n') (hz1 : z + N ≤ z') (hh : ∀ k, k < n → h1 k = h k) (hc : h1 n = ax_obj ci fs)
    (kk : AX G l M d pc' ls (.ref n :: st) (n + 1) (z + N) h1 n' z' Q) : AX G l M d pc ls st n z h n' z' Q := by
  subst hp
  obtain ⟨C, T, ty0, g1, g2, g3, g4, g5, g6, g7⟩ := hN
  intro p e s m args below meth c R H locs cells slots la C0 hd' hlo hn' hz hcl hsl hR hS hL
  obtain ⟨hx, hb, -, -, hown, -, -, hK⟩ := id C0
  have hKn := hK.2.1.1 ci _ g1
  refine W.newcK hx hb hown (hK.1.use g4 rfl) (hK.1.use g5 rfl) (hK.1.use g6 rfl) rfl hd (by omega) (by omega) hKn.2.1 rfl fun H1 kC hkC e1 z1 o1 => ?_
  have hat : va_at (ax_gD G) vwCl (ax_gB G + n, ax_e G (h1 n)) H1 := by
    rw [hc]
    show va_at (ax_gD G) vwCl (ax_gB G + n, .inr (ci, fs.map (ax_v G))) H1
    rw [hfm, ← hR.2]
    exact ⟨_, g1, (u_born ty0 (ax_lays (args := args) hK.1 g2) (fun _ q => q) hKn hkC e1 g3).to g7⟩
  have w := kk p e s m args below meth c R H1 locs (cells + 1) (slots + N) la C0 hd' hlo hn1 hz1 (by omega) (by omega) (hR.push hh hat z1 o1) (ax_S_push hS z1 o1) hL
  rw [show cells + 1 + (n' - (n + 1)) = cells + (n' - n) by omega, show slots + N + (z' - (z + N)) = slots + (z' - z) by omega] at w
  rw [hR.2]
  exact w
theorem ax_newi {N : Nat} {x : Int32} {h1 : ax_H} (hd : decode M.2.1 pc = .ok (.newarray .int, 2)) (hp : pc + 2 = pc') (hx0 : ¬ x < 0) (hxN : x.toNatClampNeg = N) (hN : N ≤ 65536) (hn1 : n + 1 ≤ n') (hz1 : z + N ≤ z') (hh : ∀ k, k < n → h1 k = h k) (hc : h1 n = ax_arr 0 N (fun _ => 0))
    (kk : AX G l M d pc' ls (.ref n :: st) (n + 1) (z + N) h1 n' z' Q) : AX G l M d pc ls (.int x :: st) n z h n' z' Q := by
  subst hp
  intro p e s m args below meth c R H locs cells slots la C0 hd' hlo hn' hz hcl hsl hR hS hL
  obtain ⟨hx, hb, -, -, hown, -, -, hK⟩ := id C0
  have hbs : N * componentBytes .int ≤ 536870912 := Nat.le_trans (Nat.mul_le_mul_right _ hN) (by decide)
  refine va_newaK (atype := .int) hx hb (ax_ac (ty := .int) hK.2.2.1.1) rfl hd rfl hx0 hxN hbs (by omega) (by omega) rfl fun H1 cA e1 z1 o1 hAr hNm => ?_
  have hcA : cA = ax_gA G 0 := Option.some.inj (hNm.symm.trans (hK.2.1.2 0 _ rfl).2)
  have hat : va_at (ax_gD G) vwCl (ax_gB G + n, ax_e G (h1 n)) H1 := by
    rw [hc, ← hR.2]
    show H1[H.size]? = some (vp_cell (ax_gA G 0) (N, .inl (fun _ => 0)))
    rw [e1, hcA]
    rfl
  have w := kk p e s m args below meth c R H1 locs (cells + 1) (slots + N) la C0 hd' hlo hn1 hz1 (by omega) (by omega) (hR.push hh hat z1 o1) (ax_S_push hS z1 o1) hL
  rw [show cells + 1 + (n' - (n + 1)) = cells + (n' - n) by omega, show slots + N + (z' - (z + N)) = slots + (z' - z) by omega] at w
  rw [hR.2]
  exact w
theorem ax_newz {N : Nat} {x : Int32} {h1 : ax_H} (hd : decode M.2.1 pc = .ok (.newarray .boolean, 2)) (hp : pc + 2 = pc') (hx0 : ¬ x < 0) (hxN : x.toNatClampNeg = N) (hN : N ≤ 65536) (hn1 : n + 1 ≤ n') (hz1 : z + N ≤ z') (hh : ∀ k, k < n → h1 k = h k) (hc : h1 n = ax_arr 1 N (fun _ => 0))
    (kk : AX G l M d pc' ls (.ref n :: st) (n + 1) (z + N) h1 n' z' Q) : AX G l M d pc ls (.int x :: st) n z h n' z' Q := by
  subst hp
  intro p e s m args below meth c R H locs cells slots la C0 hd' hlo hn' hz hcl hsl hR hS hL
  obtain ⟨hx, hb, -, -, hown, -, -, hK⟩ := id C0
  have hbs : N * componentBytes .boolean ≤ 536870912 := Nat.le_trans (Nat.mul_le_mul_right _ hN) (by decide)
  refine va_newaK (atype := .boolean) hx hb (ax_ac (ty := .boolean) hK.2.2.1.2.1) rfl hd rfl hx0 hxN hbs (by omega) (by omega) rfl fun H1 cA e1 z1 o1 hAr hNm => ?_
  have hcA : cA = ax_gA G 1 := Option.some.inj (hNm.symm.trans (hK.2.1.2 1 _ rfl).2)
  have hat : va_at (ax_gD G) vwCl (ax_gB G + n, ax_e G (h1 n)) H1 := by
    rw [hc, ← hR.2]
    show H1[H.size]? = some (vp_cell (ax_gA G 1) (N, .inl (fun _ => 0)))
    rw [e1, hcA]
    rfl
  have w := kk p e s m args below meth c R H1 locs (cells + 1) (slots + N) la C0 hd' hlo hn1 hz1 (by omega) (by omega) (hR.push hh hat z1 o1) (ax_S_push hS z1 o1) hL
  rw [show cells + 1 + (n' - (n + 1)) = cells + (n' - n) by omega, show slots + N + (z' - (z + N)) = slots + (z' - z) by omega] at w
  rw [hR.2]
  exact w
theorem ax_newq {N idx : Nat} {x : Int32} {h1 : ax_H} (hl : Cond.classLink M.1.cls idx RX5 ∈ lw_tbl) (hd : decode M.2.1 pc = .ok (.anewarray idx, 3)) (hp : pc + 3 = pc') (hx0 : ¬ x < 0) (hxN : x.toNatClampNeg = N) (hN : N ≤ 65536) (hn1 : n + 1 ≤ n') (hz1 : z + N ≤ z') (hh : ∀ k, k < n → h1 k = h k) (hc : h1 n = ax_arq N (fun _ => none))
    (kk : AX G l M d pc' ls (.ref n :: st) (n + 1) (z + N) h1 n' z' Q) : AX G l M d pc ls (.int x :: st) n z h n' z' Q := by
  subst hp
  subst hxN
  intro p e s m args below meth c R H locs cells slots la C0 hd' hlo hn' hz hcl hsl hR hS hL
  obtain ⟨hx, hb, -, -, hown, -, -, hK⟩ := id C0
  refine W.anew hx hb hown (hK.1.use hl rfl) (va_AO.use hK.2.2.1.2.2) rfl hd rfl hx0 (by omega) (by omega) (by omega) fun cA kA comp f1 f2 f3 f4 => ?_
  generalize hH1 : H.push ({ cls := cA, slots := Array.replicate x.toNatClampNeg .null, vm := .none } : Cell) = H1
  have z1 : H1.size = H.size + 1 := by rw [← hH1, Array.size_push]
  have e1 : H1[H.size]? = some (arrV cA x.toNatClampNeg (fun _ => .null)) := by rw [← hH1, Array.getElem?_push_size, ← arrV_new]
  have o1 : ∀ q : Nat, q < H.size → H1[q]? = H[q]? := fun q hq => by rw [← hH1, Array.getElem?_push, if_neg (Nat.ne_of_lt hq)]
  have hcA : cA = ax_gA G 2 := by
    obtain ⟨_, _, -, -, -, q⟩ := (hK.2.1.2 2 _ rfl).2
    exact Option.some.inj (f1.symm.trans q)
  have hat : va_at (ax_gD G) vwCl (ax_gB G + n, ax_e G (h1 n)) H1 := by
    rw [hc, ← hR.2]
    show H1[H.size]? = some (vp_cell (ax_gA G 2) (x.toNatClampNeg, .inr (.inr (.inr (.inr (fun _ => none))))))
    rw [e1, hcA]
    rfl
  have w := kk p e s m args below meth c R H1 locs (cells + 1) (slots + x.toNatClampNeg) la C0 hd' hlo hn1 hz1 (by omega) (by omega) (hR.push hh hat z1 o1) (ax_S_push hS z1 o1) hL
  rw [show cells + 1 + (n' - (n + 1)) = cells + (n' - n) by omega, show slots + x.toNatClampNeg + (z' - (z + x.toNatClampNeg)) = slots + (z' - z) by omega] at w
  rw [hR.2]
  exact w
theorem ax_aast {a N b : Nat} {f : Nat → Option Nat} {i : Int32} {fs : List Value} (hd : decode M.2.1 pc = .ok (.aastore, 1)) (hp : pc + 1 = pc') (ha : a < n) (hc : h a = ax_arq N f) (hb' : b < n) (hcb : h b = ax_obj 4 fs) (hin : vp_in i N)
    (kk : AX G l M d pc' ls st n z (va_up h a (ax_arq N (va_up f i.toNatClampNeg (some b)))) n' z' Q) : AX G l M d pc ls (.ref b :: .int i :: .ref a :: st) n z h n' z' Q := by
  subst hp
  intro p e s m args below meth c R H locs cells slots la C0 hd' hlo hn' hz hcl hsl hR hS hL
  obtain ⟨hx, hb, -, -, hown, -, -, hK⟩ := id C0
  have he : (ax_w G n h)[a]? = some (ax_gB G + a, .inl (ax_gA G 2, N, .inr (.inr (.inr (.inr (fun j => (f j).map (fun a => ax_gB G + a))))))) := by rw [ax_w_get ha, hc]; rfl
  have hv : (ax_w G n h)[b]? = some (ax_gB G + b, .inr (4, fs.map (ax_v G))) := by rw [ax_w_get hb', hcb]; rfl
  have hlt : i.toNatClampNeg < N := Nat.not_le.mp fun q => hin (Or.inr q)
  have h0 : ¬ i < 0 := fun q => hin (Or.inl q)
  obtain ⟨r', hr', cellV, g1, g2, g3, -⟩ := hR.1 b _ hv
  have hcls := (hK.2.1.1 4 _ rfl).2
  obtain ⟨kA, comp, k1, k2, k3, -⟩ := (hK.2.1.2 2 _ rfl).2
  have hcomp : comp = (ax_gD G).1 4 := Option.some.inj (k3.symm.trans hcls.1)
  subst hcomp
  obtain ⟨kC, hkC, -⟩ := hcls.2
  refine W.aast hx hb (hR.1 a _ he) (fun q h => by cases h) (fun h => by cases h) k1 k2 rfl hkC ⟨h0, by show _ < (arrV _ _ _).slots.size; rw [arrV_size]; exact hlt⟩ g1 (fun q h => by rw [g3] at h; cases h) (by rw [g2]; exact hkC) (by rw [g2]; exact va_assign hcls) rfl rfl hd fun H1 e1 z1 oq => ?_
  refine kk p e s m args below meth c R H1 _ cells slots la C0 hd' hlo hn' hz hcl hsl (hR.put ha ?_ z1 oq) (hS.put z1 oq (Nat.le_add_right _ _)) hL
  show H1[ax_gB G + a]? = some (vp_cell _ _)
  rw [e1]
  show some ((arrV _ _ _).setSlot _ _) = some (vp_cell _ (_, .inr (.inr (.inr (.inr _)))))
  rw [vp_cell_q, arrV_store]
  congr 2
  funext q
  by_cases hq : q = i.toNatClampNeg
  · subst hq
    simp [updV, va_up, va_rf]
  · simp [updV, va_up, hq]
theorem ax_copy {idx a0 a1 n0 n1 : Nat} {f g : Nat → Int32} {sp dp k : Int32} (hl : Cond.methodLink M.1.cls idx arraycopyName ∈ lw_tbl) (hd : decode M.2.1 pc = .ok (.invokestatic idx, 3)) (hp : pc + 3 = pc') (hst : 2 * st.length ≤ 8) (hdd : 1 ≤ d) (ha0 : a0 < n) (hc0 : h a0 = ax_arr 0 n0 f) (ha1 : a1 < n) (hc1 : h a1 = ax_arr 0 n1 g)
    (h1 : ¬ sp < 0) (h2 : ¬ dp < 0) (h3 : ¬ k < 0) (h4 : sp.toNatClampNeg + k.toNatClampNeg ≤ n0) (h5 : dp.toNatClampNeg + k.toNatClampNeg ≤ n1)
    (hw : Cond.native arraycopyName ∈ lw_tbl ∧ Cond.static arraycopyName ∈ lw_tbl ∧ Cond.initialized "java/lang/System" ∈ lw_tbl)
    (kk : AX G l M d pc' ls st n z (va_up h a1 (ax_arr 0 n1 (va_cpy f g sp.toNatClampNeg dp.toNatClampNeg k.toNatClampNeg))) n' z' Q) : AX G l M d pc ls (.int k :: .int dp :: .ref a1 :: .int sp :: .ref a0 :: st) n z h n' z' Q := by
  subst hp
  intro p e s m args below meth c R H locs cells slots la C0 hd' hlo hn' hz hcl hsl hR hS hL
  obtain ⟨hx, hb, hml, -, hown, -, -, hK⟩ := id C0
  have nn : ∀ z : Int32, ¬ z < 0 → z.toInt = (z.toNatClampNeg : Int) := by
    intro z hz
    have hz0 : (0 : Int) ≤ z.toInt := by
      have := Int32.not_lt.mp hz
      simpa using Int32.le_iff_toInt_le.mp this
    show z.toInt = ((z.toInt.toNat : Nat) : Int)
    omega
  intro T hT X
  have hc0' : H[ax_gB G + a0]? = some (vp_cell (ax_gA G 0) (n0, .inl f)) := hR.1 a0 (ax_gB G + a0, .inl (ax_gA G 0, n0, .inl f)) (by rw [ax_w_get ha0, hc0]; rfl)
  have hc1' : H[ax_gB G + a1]? = some (vp_cell (ax_gA G 0) (n1, .inl g)) := hR.1 a1 (ax_gB G + a1, .inl (ax_gA G 0, n1, .inl g)) (by rw [ax_w_get ha1, hc1]; rfl)
  obtain ⟨-, k0, hk0, cm0, hkk0⟩ := (hK.2.1.2 0 _ rfl).1 n0 (fun j => .int (f j))
  obtain ⟨-, k1, hk1, cm1, hkk1⟩ := (hK.2.1.2 0 _ rfl).1 n1 (fun j => .int (g j))
  have hsum := ax_sum (G := G) st
  obtain ⟨vm', X', step⟩ := X.arraycopy hx hown (hK.1.use hl rfl) (hK.1.use hw.1 rfl) (hK.1.use hw.2.1 rfl) (hK.1.use hw.2.2 rfl) (src := ax_gB G + a0) (dst := ax_gB G + a1) (cs := vp_cell (ax_gA G 0) (n0, .inl f)) (cd := vp_cell (ax_gA G 0) (n1, .inl g)) (srcPos := sp) (destPos := dp) (n := k) (by rw [hT]; exact hc0') (by rw [hT]; exact hc1')
    (fun _ h => by cases h) (fun _ h => by cases h) (fun h => by cases h) (fun h => by cases h) hk0 hk1 hkk0 hkk1 (by simp [refKind]) h1 h2 h3
    (by rw [nn sp h1, nn k h3]; show ¬ _ > ((arrV (ax_gA G 0) n0 (fun j => .int (f j))).slots.size : Int); rw [arrV_size]; omega)
    (by rw [nn dp h2, nn k h3]; show ¬ _ > ((arrV (ax_gA G 0) n1 (fun j => .int (g j))).slots.size : Int); rw [arrV_size]; omega)
    (fun vm₁ _ i hi => by
      have e : (vp_cell (ax_gA G 0) (n0, .inl f)).slots.getD (sp.toNatClampNeg + i) .null = .int (f (sp.toNatClampNeg + i)) := by
        show (arrV (ax_gA G 0) n0 (fun j => .int (f j))).slots.getD _ _ = _
        rw [Array.getD_eq_getD_getElem?, arrV_read _ _ (by omega)]
        rfl
      refine ⟨?_, ?_⟩
      · rw [e]
        rfl
      · rw [e]
        exact trivial)
    (g := F0 m pc la (.int k :: .int dp :: .ref (ax_gB G + a1) :: .int sp :: .ref (ax_gB G + a0) :: st.map (ax_v G))) rfl (by show la.size = c.maxLocals; rw [hml]; exact hL.1) (rest := st.map (ax_v G)) rfl (by rw [hb]; exact hd) (by omega) (by
      have e9 : nativeFrameWords "java/lang/System" "arraycopy" 5 + 11 ≤ 27 := by decide +kernel
      show 2 * 0 + _ + _ ≤ _
      omega)
  have e1 : copied (vp_cell (ax_gA G 0) (n0, .inl f)) (vp_cell (ax_gA G 0) (n1, .inl g)) sp dp k = vp_cell (ax_gA G 0) (n1, .inl (va_cpy f g sp.toNatClampNeg dp.toNatClampNeg k.toNatClampNeg)) := va_copied (fun z => .int z) (ax_gA G 0) (ax_gA G 0) f g h4
  rw [e1] at X' step
  have hl' : ax_gB G + a1 < H.size := (Array.getElem?_eq_some_iff.mp hc1').1
  have hheap : ((T.setVm vm').setCell (ax_gB G + a1) (vp_cell (ax_gA G 0) (n1, .inl (va_cpy f g sp.toNatClampNeg dp.toNatClampNeg k.toNatClampNeg)))).heap = H.setIfInBounds (ax_gB G + a1) (vp_cell (ax_gA G 0) (n1, .inl (va_cpy f g sp.toNatClampNeg dp.toNatClampNeg k.toNatClampNeg))) := by rw [← hT]; rfl
  have oq : ∀ q : Nat, q ≠ ax_gB G + a1 → (H.setIfInBounds (ax_gB G + a1) (vp_cell (ax_gA G 0) (n1, .inl (va_cpy f g sp.toNatClampNeg dp.toNatClampNeg k.toNatClampNeg))))[q]? = H[q]? := fun q hq => by simp [Array.getElem?_setIfInBounds, Ne.symm hq]
  obtain ⟨t, q1, q2⟩ := kk p e s m args below meth c R _ _ cells slots la C0 hd' hlo hn' hz hcl hsl (hR.put (c := ax_arr 0 n1 (va_cpy f g sp.toNatClampNeg dp.toNatClampNeg k.toNatClampNeg)) ha1 (show (H.setIfInBounds (ax_gB G + a1) _)[ax_gB G + a1]? = some _ by simp [Array.getElem?_setIfInBounds, hl']) (by simp) oq) ⟨by simp; exact hS.1, fun q g1 g2 => by
      rw [oq q (fun e => g2 (by rw [e]; exact Nat.le_add_right _ _))]
      exact hS.2.1 q g1 g2, fun q hq => by
      rcases List.mem_append.mp hq with h | h
      · exact hS.2.2 q h
      · obtain ⟨z, -, hz⟩ := List.mem_map.mp h
        rw [← hz]
        exact Nat.le_add_right _ _⟩ hL _ hheap X'
  exact ⟨t, step t q1, q2⟩
theorem ax_objInit {a idx : Nat} (hl : Cond.methodLink M.1.cls idx objectInit ∈ lw_tbl) (hw : Cond.instanceMethod objectInit ∈ lw_tbl ∧ Cond.code objectInit ⟨#[0xb1]⟩ 1 none ∈ lw_tbl) (hd : decode M.2.1 pc = .ok (.invokespecial idx, 3)) (hp : pc + 3 = pc') (hst : 2 * st.length ≤ 8) (hdd : 1 ≤ d)
    (kk : AX G l M d pc' ls st n z h n' z' Q) : AX G l M d pc ls (.ref a :: st) n z h n' z' Q := by
  subst hp
  intro p e s m args below meth c R H locs cells slots la C0 hd' hlo hn' hz hcl hsl hR hS hL
  obtain ⟨hx, hb, hml, -, hown, -, -, hK⟩ := id C0
  refine W.objInit hx hb hown (hK.1.use hl rfl) (hK.1.use hw.1 rfl) (hK.1.use hw.2 rfl) rfl (by show la.size = c.maxLocals; rw [hml]; exact hL.1) rfl hd (by omega) ?_ ?_
  · have h1 := lv_room (m := m) (pc := pc) (ls := la) (rest := (Value.ref a :: st).map (ax_v G)) (st := st.map (ax_v G)) (Nat.le_trans (ax_sum (G := G) st) hst)
    omega
  · exact kk p e s m args below meth c R H locs cells slots la C0 hd' hlo hn' hz hcl hsl hR hS hL
end AXN
end
section
/-! ===== the words of the tables, by their places ===== -/
theorem tb_at {w : Cond} {i : Nat} (h : tables_1[i]? = some w) : w ∈ lw_tbl := List.mem_append_right _ (List.mem_of_getElem? h)
theorem inX0 : ∀ w ∈ u_ws RX0 TX0 3, w ∈ lw_tbl := by decide +kernel
theorem inX1 : ∀ w ∈ u_ws RX1 TX1 1, w ∈ lw_tbl := by decide +kernel
theorem inX3 : ∀ w ∈ u_ws RX3 TX3 3, w ∈ lw_tbl := by decide +kernel
theorem inX4 : ∀ w ∈ u_ws RX4 TX4 3, w ∈ lw_tbl := by decide +kernel
theorem inX5 : ∀ w ∈ u_ws RX5 TX5 6, w ∈ lw_tbl := by decide +kernel
theorem inX7 : ∀ w ∈ u_ws RX7 TX7 5, w ∈ lw_tbl := by decide +kernel
theorem inX8 : ∀ w ∈ u_ws RX8 TX8 6, w ∈ lw_tbl := by decide +kernel
theorem inX9 : ∀ w ∈ u_ws RX9 TX9 9, w ∈ lw_tbl := by decide +kernel
theorem inX10 : ∀ w ∈ u_ws RX10 TX10 27, w ∈ lw_tbl := by decide +kernel
theorem kmX0_init : ax_MK mX0_init 0 := ⟨(tb_at (i := 132) (by decide +kernel)), (tb_at (i := 7) (by decide +kernel)), ⟨by decide +kernel, by decide +kernel, by decide +kernel⟩, by decide⟩
theorem ksX0_init : ax_MI mX0_init 0 := ⟨kmX0_init, (tb_at (i := 131) (by decide +kernel)), rfl, rfl⟩
theorem kmX0_empty : ax_MK mX0_empty 0 := ⟨(tb_at (i := 326) (by decide +kernel)), (tb_at (i := 7) (by decide +kernel)), ⟨by decide +kernel, by decide +kernel, by decide +kernel⟩, by decide⟩
theorem ksX0_empty : ax_MV mX0_empty 0 := ⟨kmX0_empty, (tb_at (i := 324) (by decide +kernel)), (tb_at (i := 325) (by decide +kernel))⟩
theorem kmX0_hasRoom : ax_MK mX0_hasRoom 0 := ⟨(tb_at (i := 678) (by decide +kernel)), (tb_at (i := 7) (by decide +kernel)), ⟨by decide +kernel, by decide +kernel, by decide +kernel⟩, by decide⟩
theorem ksX0_hasRoom : ax_MV mX0_hasRoom 0 := ⟨kmX0_hasRoom, (tb_at (i := 676) (by decide +kernel)), (tb_at (i := 677) (by decide +kernel))⟩
theorem kmX0_add : ax_MK mX0_add 2 := ⟨(tb_at (i := 682) (by decide +kernel)), (tb_at (i := 7) (by decide +kernel)), ⟨by decide +kernel, by decide +kernel, by decide +kernel⟩, by decide⟩
theorem ksX0_add : ax_MV mX0_add 2 := ⟨kmX0_add, (tb_at (i := 680) (by decide +kernel)), (tb_at (i := 681) (by decide +kernel))⟩
theorem kmX0_firstWrong : ax_MK mX0_firstWrong 1 := ⟨(tb_at (i := 695) (by decide +kernel)), (tb_at (i := 7) (by decide +kernel)), ⟨by decide +kernel, by decide +kernel, by decide +kernel⟩, by decide⟩
theorem ksX0_firstWrong : ax_MV mX0_firstWrong 1 := ⟨kmX0_firstWrong, (tb_at (i := 693) (by decide +kernel)), (tb_at (i := 694) (by decide +kernel))⟩
theorem kmX1_init : ax_MK mX1_init 0 := ⟨(tb_at (i := 149) (by decide +kernel)), (tb_at (i := 8) (by decide +kernel)), ⟨by decide +kernel, by decide +kernel, by decide +kernel⟩, by decide⟩
theorem ksX1_init : ax_MI mX1_init 0 := ⟨kmX1_init, (tb_at (i := 148) (by decide +kernel)), rfl, rfl⟩
theorem kmX1_drawOf : ax_MK mX1_drawOf 1 := ⟨(tb_at (i := 492) (by decide +kernel)), (tb_at (i := 8) (by decide +kernel)), ⟨by decide +kernel, by decide +kernel, by decide +kernel⟩, by decide⟩
theorem ksX1_drawOf : ax_MV mX1_drawOf 1 := ⟨kmX1_drawOf, (tb_at (i := 490) (by decide +kernel)), (tb_at (i := 491) (by decide +kernel))⟩
theorem kmX2_apart : ax_MK mX2_apart 2 := ⟨(tb_at (i := 429) (by decide +kernel)), (tb_at (i := 14) (by decide +kernel)), ⟨by decide +kernel, by decide +kernel, by decide +kernel⟩, by decide⟩
theorem ksX2_apart : ax_MS mX2_apart 2 := ⟨kmX2_apart, (tb_at (i := 428) (by decide +kernel))⟩
theorem kmX2_apartOf : ax_MK mX2_apartOf 3 := ⟨(tb_at (i := 469) (by decide +kernel)), (tb_at (i := 14) (by decide +kernel)), ⟨by decide +kernel, by decide +kernel, by decide +kernel⟩, by decide⟩
theorem ksX2_apartOf : ax_MS mX2_apartOf 3 := ⟨kmX2_apartOf, (tb_at (i := 468) (by decide +kernel))⟩
theorem kmX2_pick : ax_MK mX2_pick 3 := ⟨(tb_at (i := 465) (by decide +kernel)), (tb_at (i := 14) (by decide +kernel)), ⟨by decide +kernel, by decide +kernel, by decide +kernel⟩, by decide⟩
theorem ksX2_pick : ax_MS mX2_pick 3 := ⟨kmX2_pick, (tb_at (i := 464) (by decide +kernel))⟩
theorem kmX2_sureness : ax_MK mX2_sureness 4 := ⟨(tb_at (i := 510) (by decide +kernel)), (tb_at (i := 14) (by decide +kernel)), ⟨by decide +kernel, by decide +kernel, by decide +kernel⟩, by decide⟩
theorem ksX2_sureness : ax_MS mX2_sureness 4 := ⟨kmX2_sureness, (tb_at (i := 509) (by decide +kernel))⟩
theorem kmX2_lead : ax_MK mX2_lead 5 := ⟨(tb_at (i := 514) (by decide +kernel)), (tb_at (i := 14) (by decide +kernel)), ⟨by decide +kernel, by decide +kernel, by decide +kernel⟩, by decide⟩
theorem ksX2_lead : ax_MS mX2_lead 5 := ⟨kmX2_lead, (tb_at (i := 513) (by decide +kernel))⟩
theorem kmX2_oddsOf : ax_MK mX2_oddsOf 4 := ⟨(tb_at (i := 542) (by decide +kernel)), (tb_at (i := 14) (by decide +kernel)), ⟨by decide +kernel, by decide +kernel, by decide +kernel⟩, by decide⟩
theorem ksX2_oddsOf : ax_MS mX2_oddsOf 4 := ⟨kmX2_oddsOf, (tb_at (i := 541) (by decide +kernel))⟩
theorem kmX2_weightIn : ax_MK mX2_weightIn 4 := ⟨(tb_at (i := 545) (by decide +kernel)), (tb_at (i := 14) (by decide +kernel)), ⟨by decide +kernel, by decide +kernel, by decide +kernel⟩, by decide⟩
theorem ksX2_weightIn : ax_MS mX2_weightIn 4 := ⟨kmX2_weightIn, (tb_at (i := 544) (by decide +kernel))⟩
theorem kmX2_spread : ax_MK mX2_spread 3 := ⟨(tb_at (i := 666) (by decide +kernel)), (tb_at (i := 14) (by decide +kernel)), ⟨by decide +kernel, by decide +kernel, by decide +kernel⟩, by decide⟩
theorem ksX2_spread : ax_MS mX2_spread 3 := ⟨kmX2_spread, (tb_at (i := 665) (by decide +kernel))⟩
theorem kmX3_init : ax_MK mX3_init 0 := ⟨(tb_at (i := 160) (by decide +kernel)), (tb_at (i := 9) (by decide +kernel)), ⟨by decide +kernel, by decide +kernel, by decide +kernel⟩, by decide⟩
theorem ksX3_init : ax_MI mX3_init 0 := ⟨kmX3_init, (tb_at (i := 159) (by decide +kernel)), rfl, rfl⟩
theorem kmX3_take : ax_MK mX3_take 2 := ⟨(tb_at (i := 712) (by decide +kernel)), (tb_at (i := 9) (by decide +kernel)), ⟨by decide +kernel, by decide +kernel, by decide +kernel⟩, by decide⟩
theorem ksX3_take : ax_MV mX3_take 2 := ⟨kmX3_take, (tb_at (i := 710) (by decide +kernel)), (tb_at (i := 711) (by decide +kernel))⟩
theorem kmX3_drop : ax_MK mX3_drop 0 := ⟨(tb_at (i := 330) (by decide +kernel)), (tb_at (i := 9) (by decide +kernel)), ⟨by decide +kernel, by decide +kernel, by decide +kernel⟩, by decide⟩
theorem ksX3_drop : ax_MV mX3_drop 0 := ⟨kmX3_drop, (tb_at (i := 328) (by decide +kernel)), (tb_at (i := 329) (by decide +kernel))⟩
theorem kmX4_init : ax_MK mX4_init 0 := ⟨(tb_at (i := 89) (by decide +kernel)), (tb_at (i := 5) (by decide +kernel)), ⟨by decide +kernel, by decide +kernel, by decide +kernel⟩, by decide⟩
theorem ksX4_init : ax_MI mX4_init 0 := ⟨kmX4_init, (tb_at (i := 88) (by decide +kernel)), rfl, rfl⟩
theorem kmX4_empty : ax_MK mX4_empty 0 := ⟨(tb_at (i := 318) (by decide +kernel)), (tb_at (i := 5) (by decide +kernel)), ⟨by decide +kernel, by decide +kernel, by decide +kernel⟩, by decide⟩
theorem ksX4_empty : ax_MV mX4_empty 0 := ⟨kmX4_empty, (tb_at (i := 316) (by decide +kernel)), (tb_at (i := 317) (by decide +kernel))⟩
theorem kmX4_push : ax_MK mX4_push 1 := ⟨(tb_at (i := 403) (by decide +kernel)), (tb_at (i := 5) (by decide +kernel)), ⟨by decide +kernel, by decide +kernel, by decide +kernel⟩, by decide⟩
theorem ksX4_push : ax_MV mX4_push 1 := ⟨kmX4_push, (tb_at (i := 401) (by decide +kernel)), (tb_at (i := 402) (by decide +kernel))⟩
theorem kmX4_popInto : ax_MK mX4_popInto 1 := ⟨(tb_at (i := 503) (by decide +kernel)), (tb_at (i := 5) (by decide +kernel)), ⟨by decide +kernel, by decide +kernel, by decide +kernel⟩, by decide⟩
theorem ksX4_popInto : ax_MV mX4_popInto 1 := ⟨kmX4_popInto, (tb_at (i := 501) (by decide +kernel)), (tb_at (i := 502) (by decide +kernel))⟩
theorem kmX4_stateAt : ax_MK mX4_stateAt 1 := ⟨(tb_at (i := 407) (by decide +kernel)), (tb_at (i := 5) (by decide +kernel)), ⟨by decide +kernel, by decide +kernel, by decide +kernel⟩, by decide⟩
theorem ksX4_stateAt : ax_MV mX4_stateAt 1 := ⟨kmX4_stateAt, (tb_at (i := 406) (by decide +kernel)), (List.mem_append_left _ (List.mem_of_getElem? (i := 9) (by decide +kernel)))⟩
theorem kmX5_init : ax_MK mX5_init 0 := ⟨(tb_at (i := 56) (by decide +kernel)), (tb_at (i := 3) (by decide +kernel)), ⟨by decide +kernel, by decide +kernel, by decide +kernel⟩, by decide⟩
theorem ksX5_init : ax_MI mX5_init 0 := ⟨kmX5_init, (tb_at (i := 55) (by decide +kernel)), rfl, rfl⟩
theorem kmX5_empty : ax_MK mX5_empty 0 := ⟨(tb_at (i := 239) (by decide +kernel)), (tb_at (i := 3) (by decide +kernel)), ⟨by decide +kernel, by decide +kernel, by decide +kernel⟩, by decide⟩
theorem ksX5_empty : ax_MV mX5_empty 0 := ⟨kmX5_empty, (tb_at (i := 237) (by decide +kernel)), (tb_at (i := 238) (by decide +kernel))⟩
theorem kmX5_become : ax_MK mX5_become 1 := ⟨(tb_at (i := 311) (by decide +kernel)), (tb_at (i := 3) (by decide +kernel)), ⟨by decide +kernel, by decide +kernel, by decide +kernel⟩, by decide⟩
theorem ksX5_become : ax_MV mX5_become 1 := ⟨kmX5_become, (tb_at (i := 309) (by decide +kernel)), (tb_at (i := 310) (by decide +kernel))⟩
theorem kmX5_add : ax_MK mX5_add 2 := ⟨(tb_at (i := 274) (by decide +kernel)), (tb_at (i := 3) (by decide +kernel)), ⟨by decide +kernel, by decide +kernel, by decide +kernel⟩, by decide⟩
theorem ksX5_add : ax_MV mX5_add 2 := ⟨kmX5_add, (tb_at (i := 272) (by decide +kernel)), (tb_at (i := 273) (by decide +kernel))⟩
theorem kmX5_has : ax_MK mX5_has 1 := ⟨(tb_at (i := 295) (by decide +kernel)), (tb_at (i := 3) (by decide +kernel)), ⟨by decide +kernel, by decide +kernel, by decide +kernel⟩, by decide⟩
theorem ksX5_has : ax_MV mX5_has 1 := ⟨kmX5_has, (tb_at (i := 293) (by decide +kernel)), (tb_at (i := 294) (by decide +kernel))⟩
theorem kmX5_isPair : ax_MK mX5_isPair 2 := ⟨(tb_at (i := 291) (by decide +kernel)), (tb_at (i := 3) (by decide +kernel)), ⟨by decide +kernel, by decide +kernel, by decide +kernel⟩, by decide⟩
theorem ksX5_isPair : ax_MV mX5_isPair 2 := ⟨kmX5_isPair, (tb_at (i := 289) (by decide +kernel)), (tb_at (i := 290) (by decide +kernel))⟩
theorem kmX5_everybody : ax_MK mX5_everybody 0 := ⟨(tb_at (i := 455) (by decide +kernel)), (tb_at (i := 3) (by decide +kernel)), ⟨by decide +kernel, by decide +kernel, by decide +kernel⟩, by decide⟩
theorem ksX5_everybody : ax_MV mX5_everybody 0 := ⟨kmX5_everybody, (tb_at (i := 453) (by decide +kernel)), (tb_at (i := 454) (by decide +kernel))⟩
theorem kmX5_holdsAll : ax_MK mX5_holdsAll 1 := ⟨(tb_at (i := 451) (by decide +kernel)), (tb_at (i := 3) (by decide +kernel)), ⟨by decide +kernel, by decide +kernel, by decide +kernel⟩, by decide⟩
theorem ksX5_holdsAll : ax_MV mX5_holdsAll 1 := ⟨kmX5_holdsAll, (tb_at (i := 449) (by decide +kernel)), (tb_at (i := 450) (by decide +kernel))⟩
theorem kmX5_marksOf : ax_MK mX5_marksOf 1 := ⟨(tb_at (i := 303) (by decide +kernel)), (tb_at (i := 3) (by decide +kernel)), ⟨by decide +kernel, by decide +kernel, by decide +kernel⟩, by decide⟩
theorem ksX5_marksOf : ax_MV mX5_marksOf 1 := ⟨kmX5_marksOf, (tb_at (i := 301) (by decide +kernel)), (tb_at (i := 302) (by decide +kernel))⟩
theorem kmX5_changesOf : ax_MK mX5_changesOf 1 := ⟨(tb_at (i := 379) (by decide +kernel)), (tb_at (i := 3) (by decide +kernel)), ⟨by decide +kernel, by decide +kernel, by decide +kernel⟩, by decide⟩
theorem ksX5_changesOf : ax_MV mX5_changesOf 1 := ⟨kmX5_changesOf, (tb_at (i := 377) (by decide +kernel)), (tb_at (i := 378) (by decide +kernel))⟩
theorem kmX5_identityOf : ax_MK mX5_identityOf 1 := ⟨(tb_at (i := 350) (by decide +kernel)), (tb_at (i := 3) (by decide +kernel)), ⟨by decide +kernel, by decide +kernel, by decide +kernel⟩, by decide⟩
theorem ksX5_identityOf : ax_MV mX5_identityOf 1 := ⟨kmX5_identityOf, (tb_at (i := 348) (by decide +kernel)), (tb_at (i := 349) (by decide +kernel))⟩
theorem kmX5_memoryOf : ax_MK mX5_memoryOf 2 := ⟨(tb_at (i := 287) (by decide +kernel)), (tb_at (i := 3) (by decide +kernel)), ⟨by decide +kernel, by decide +kernel, by decide +kernel⟩, by decide⟩
theorem ksX5_memoryOf : ax_MV mX5_memoryOf 2 := ⟨kmX5_memoryOf, (tb_at (i := 285) (by decide +kernel)), (tb_at (i := 286) (by decide +kernel))⟩
theorem kmX5_knows : ax_MK mX5_knows 2 := ⟨(tb_at (i := 283) (by decide +kernel)), (tb_at (i := 3) (by decide +kernel)), ⟨by decide +kernel, by decide +kernel, by decide +kernel⟩, by decide⟩
theorem ksX5_knows : ax_MV mX5_knows 2 := ⟨kmX5_knows, (tb_at (i := 281) (by decide +kernel)), (tb_at (i := 282) (by decide +kernel))⟩
theorem kmX5_flip : ax_MK mX5_flip 2 := ⟨(tb_at (i := 421) (by decide +kernel)), (tb_at (i := 3) (by decide +kernel)), ⟨by decide +kernel, by decide +kernel, by decide +kernel⟩, by decide⟩
theorem ksX5_flip : ax_MV mX5_flip 2 := ⟨kmX5_flip, (tb_at (i := 419) (by decide +kernel)), (tb_at (i := 420) (by decide +kernel))⟩
theorem kmX5_learn : ax_MK mX5_learn 2 := ⟨(tb_at (i := 299) (by decide +kernel)), (tb_at (i := 3) (by decide +kernel)), ⟨by decide +kernel, by decide +kernel, by decide +kernel⟩, by decide⟩
theorem ksX5_learn : ax_MV mX5_learn 2 := ⟨kmX5_learn, (tb_at (i := 297) (by decide +kernel)), (tb_at (i := 298) (by decide +kernel))⟩
theorem kmX5_unlearn : ax_MK mX5_unlearn 2 := ⟨(tb_at (i := 439) (by decide +kernel)), (tb_at (i := 3) (by decide +kernel)), ⟨by decide +kernel, by decide +kernel, by decide +kernel⟩, by decide⟩
theorem ksX5_unlearn : ax_MV mX5_unlearn 2 := ⟨kmX5_unlearn, (tb_at (i := 437) (by decide +kernel)), (tb_at (i := 438) (by decide +kernel))⟩
theorem kmX5_identify : ax_MK mX5_identify 2 := ⟨(tb_at (i := 475) (by decide +kernel)), (tb_at (i := 3) (by decide +kernel)), ⟨by decide +kernel, by decide +kernel, by decide +kernel⟩, by decide⟩
theorem ksX5_identify : ax_MV mX5_identify 2 := ⟨kmX5_identify, (tb_at (i := 473) (by decide +kernel)), (tb_at (i := 474) (by decide +kernel))⟩
theorem kmX5_passYears : ax_MK mX5_passYears 1 := ⟨(tb_at (i := 416) (by decide +kernel)), (tb_at (i := 3) (by decide +kernel)), ⟨by decide +kernel, by decide +kernel, by decide +kernel⟩, by decide⟩
theorem ksX5_passYears : ax_MV mX5_passYears 1 := ⟨kmX5_passYears, (tb_at (i := 414) (by decide +kernel)), (tb_at (i := 415) (by decide +kernel))⟩
theorem kmX5_knownBy : ax_MK mX5_knownBy 1 := ⟨(tb_at (i := 368) (by decide +kernel)), (tb_at (i := 3) (by decide +kernel)), ⟨by decide +kernel, by decide +kernel, by decide +kernel⟩, by decide⟩
theorem ksX5_knownBy : ax_MV mX5_knownBy 1 := ⟨kmX5_knownBy, (tb_at (i := 366) (by decide +kernel)), (tb_at (i := 367) (by decide +kernel))⟩
theorem kmX5_knowersOf : ax_MK mX5_knowersOf 1 := ⟨(tb_at (i := 385) (by decide +kernel)), (tb_at (i := 3) (by decide +kernel)), ⟨by decide +kernel, by decide +kernel, by decide +kernel⟩, by decide⟩
theorem ksX5_knowersOf : ax_MV mX5_knowersOf 1 := ⟨kmX5_knowersOf, (tb_at (i := 383) (by decide +kernel)), (tb_at (i := 384) (by decide +kernel))⟩
theorem kmX5_countAcquaintances : ax_MK mX5_countAcquaintances 0 := ⟨(tb_at (i := 364) (by decide +kernel)), (tb_at (i := 3) (by decide +kernel)), ⟨by decide +kernel, by decide +kernel, by decide +kernel⟩, by decide⟩
theorem ksX5_countAcquaintances : ax_MV mX5_countAcquaintances 0 := ⟨kmX5_countAcquaintances, (tb_at (i := 362) (by decide +kernel)), (tb_at (i := 363) (by decide +kernel))⟩
theorem kmX5_whoAre : ax_MK mX5_whoAre 1 := ⟨(tb_at (i := 346) (by decide +kernel)), (tb_at (i := 3) (by decide +kernel)), ⟨by decide +kernel, by decide +kernel, by decide +kernel⟩, by decide⟩
theorem ksX5_whoAre : ax_MV mX5_whoAre 1 := ⟨kmX5_whoAre, (tb_at (i := 344) (by decide +kernel)), (tb_at (i := 345) (by decide +kernel))⟩
theorem kmX5_twoOfOne : ax_MK mX5_twoOfOne 0 := ⟨(tb_at (i := 342) (by decide +kernel)), (tb_at (i := 3) (by decide +kernel)), ⟨by decide +kernel, by decide +kernel, by decide +kernel⟩, by decide⟩
theorem ksX5_twoOfOne : ax_MV mX5_twoOfOne 0 := ⟨kmX5_twoOfOne, (tb_at (i := 340) (by decide +kernel)), (tb_at (i := 341) (by decide +kernel))⟩
theorem kmX5_nobodies : ax_MK mX5_nobodies 0 := ⟨(tb_at (i := 360) (by decide +kernel)), (tb_at (i := 3) (by decide +kernel)), ⟨by decide +kernel, by decide +kernel, by decide +kernel⟩, by decide⟩
theorem ksX5_nobodies : ax_MV mX5_nobodies 0 := ⟨kmX5_nobodies, (tb_at (i := 358) (by decide +kernel)), (tb_at (i := 359) (by decide +kernel))⟩
theorem kmX5_stepsBackTo : ax_MK mX5_stepsBackTo 1 := ⟨(tb_at (i := 562) (by decide +kernel)), (tb_at (i := 3) (by decide +kernel)), ⟨by decide +kernel, by decide +kernel, by decide +kernel⟩, by decide⟩
theorem ksX5_stepsBackTo : ax_MV mX5_stepsBackTo 1 := ⟨kmX5_stepsBackTo, (tb_at (i := 560) (by decide +kernel)), (tb_at (i := 561) (by decide +kernel))⟩
theorem kmX5_countInRings : ax_MK mX5_countInRings 0 := ⟨(tb_at (i := 570) (by decide +kernel)), (tb_at (i := 3) (by decide +kernel)), ⟨by decide +kernel, by decide +kernel, by decide +kernel⟩, by decide⟩
theorem ksX5_countInRings : ax_MV mX5_countInRings 0 := ⟨kmX5_countInRings, (tb_at (i := 568) (by decide +kernel)), (tb_at (i := 569) (by decide +kernel))⟩
theorem kmX5_countAstray : ax_MK mX5_countAstray 0 := ⟨(tb_at (i := 575) (by decide +kernel)), (tb_at (i := 3) (by decide +kernel)), ⟨by decide +kernel, by decide +kernel, by decide +kernel⟩, by decide⟩
theorem ksX5_countAstray : ax_MV mX5_countAstray 0 := ⟨kmX5_countAstray, (tb_at (i := 573) (by decide +kernel)), (tb_at (i := 574) (by decide +kernel))⟩
theorem kmX5_countAstrayAndKnown : ax_MK mX5_countAstrayAndKnown 0 := ⟨(tb_at (i := 579) (by decide +kernel)), (tb_at (i := 3) (by decide +kernel)), ⟨by decide +kernel, by decide +kernel, by decide +kernel⟩, by decide⟩
theorem ksX5_countAstrayAndKnown : ax_MV mX5_countAstrayAndKnown 0 := ⟨kmX5_countAstrayAndKnown, (tb_at (i := 577) (by decide +kernel)), (tb_at (i := 578) (by decide +kernel))⟩
theorem kmX5_isFaded : ax_MK mX5_isFaded 2 := ⟨(tb_at (i := 616) (by decide +kernel)), (tb_at (i := 3) (by decide +kernel)), ⟨by decide +kernel, by decide +kernel, by decide +kernel⟩, by decide⟩
theorem ksX5_isFaded : ax_MV mX5_isFaded 2 := ⟨kmX5_isFaded, (tb_at (i := 614) (by decide +kernel)), (tb_at (i := 615) (by decide +kernel))⟩
theorem kmX5_fadedPair : ax_MK mX5_fadedPair 1 := ⟨(tb_at (i := 612) (by decide +kernel)), (tb_at (i := 3) (by decide +kernel)), ⟨by decide +kernel, by decide +kernel, by decide +kernel⟩, by decide⟩
theorem ksX5_fadedPair : ax_MV mX5_fadedPair 1 := ⟨kmX5_fadedPair, (tb_at (i := 610) (by decide +kernel)), (tb_at (i := 611) (by decide +kernel))⟩
theorem kmX5_firstTwins : ax_MK mX5_firstTwins 0 := ⟨(tb_at (i := 625) (by decide +kernel)), (tb_at (i := 3) (by decide +kernel)), ⟨by decide +kernel, by decide +kernel, by decide +kernel⟩, by decide⟩
theorem ksX5_firstTwins : ax_MV mX5_firstTwins 0 := ⟨kmX5_firstTwins, (tb_at (i := 623) (by decide +kernel)), (tb_at (i := 624) (by decide +kernel))⟩
theorem kmX6_surest : ax_MK mX6_surest 4 := ⟨(tb_at (i := 524) (by decide +kernel)), (tb_at (i := 15) (by decide +kernel)), ⟨by decide +kernel, by decide +kernel, by decide +kernel⟩, by decide⟩
theorem ksX6_surest : ax_MS mX6_surest 4 := ⟨kmX6_surest, (tb_at (i := 523) (by decide +kernel))⟩
theorem kmX6_surestWitness : ax_MK mX6_surestWitness 3 := ⟨(tb_at (i := 553) (by decide +kernel)), (tb_at (i := 15) (by decide +kernel)), ⟨by decide +kernel, by decide +kernel, by decide +kernel⟩, by decide⟩
theorem ksX6_surestWitness : ax_MS mX6_surestWitness 3 := ⟨kmX6_surestWitness, (tb_at (i := 552) (by decide +kernel))⟩
theorem kmX6_fewestMarks : ax_MK mX6_fewestMarks 5 := ⟨(tb_at (i := 587) (by decide +kernel)), (tb_at (i := 15) (by decide +kernel)), ⟨by decide +kernel, by decide +kernel, by decide +kernel⟩, by decide⟩
theorem ksX6_fewestMarks : ax_MS mX6_fewestMarks 5 := ⟨kmX6_fewestMarks, (tb_at (i := 586) (by decide +kernel))⟩
theorem kmX6_countPicking : ax_MK mX6_countPicking 5 := ⟨(tb_at (i := 601) (by decide +kernel)), (tb_at (i := 15) (by decide +kernel)), ⟨by decide +kernel, by decide +kernel, by decide +kernel⟩, by decide⟩
theorem ksX6_countPicking : ax_MS mX6_countPicking 5 := ⟨kmX6_countPicking, (tb_at (i := 600) (by decide +kernel))⟩
theorem kmX6_leastPicking : ax_MK mX6_leastPicking 5 := ⟨(tb_at (i := 604) (by decide +kernel)), (tb_at (i := 15) (by decide +kernel)), ⟨by decide +kernel, by decide +kernel, by decide +kernel⟩, by decide⟩
theorem ksX6_leastPicking : ax_MS mX6_leastPicking 5 := ⟨kmX6_leastPicking, (tb_at (i := 603) (by decide +kernel))⟩
theorem kmX6_widest : ax_MK mX6_widest 3 := ⟨(tb_at (i := 663) (by decide +kernel)), (tb_at (i := 15) (by decide +kernel)), ⟨by decide +kernel, by decide +kernel, by decide +kernel⟩, by decide⟩
theorem ksX6_widest : ax_MS mX6_widest 3 := ⟨kmX6_widest, (tb_at (i := 662) (by decide +kernel))⟩
theorem kmX6_isRowOf : ax_MK mX6_isRowOf 3 := ⟨(tb_at (i := 532) (by decide +kernel)), (tb_at (i := 15) (by decide +kernel)), ⟨by decide +kernel, by decide +kernel, by decide +kernel⟩, by decide⟩
theorem ksX6_isRowOf : ax_MS mX6_isRowOf 3 := ⟨kmX6_isRowOf, (tb_at (i := 531) (by decide +kernel))⟩
theorem kmX6_isRowWith : ax_MK mX6_isRowWith 4 := ⟨(tb_at (i := 529) (by decide +kernel)), (tb_at (i := 15) (by decide +kernel)), ⟨by decide +kernel, by decide +kernel, by decide +kernel⟩, by decide⟩
theorem ksX6_isRowWith : ax_MS mX6_isRowWith 4 := ⟨kmX6_isRowWith, (tb_at (i := 528) (by decide +kernel))⟩
theorem kmX7_init : ax_MK mX7_init 0 := ⟨(tb_at (i := 109) (by decide +kernel)), (tb_at (i := 6) (by decide +kernel)), ⟨by decide +kernel, by decide +kernel, by decide +kernel⟩, by decide⟩
theorem ksX7_init : ax_MI mX7_init 0 := ⟨kmX7_init, (tb_at (i := 108) (by decide +kernel)), rfl, rfl⟩
theorem kmX7_empty : ax_MK mX7_empty 0 := ⟨(tb_at (i := 322) (by decide +kernel)), (tb_at (i := 6) (by decide +kernel)), ⟨by decide +kernel, by decide +kernel, by decide +kernel⟩, by decide⟩
theorem ksX7_empty : ax_MV mX7_empty 0 := ⟨kmX7_empty, (tb_at (i := 320) (by decide +kernel)), (tb_at (i := 321) (by decide +kernel))⟩
theorem kmX7_hasRoom : ax_MK mX7_hasRoom 0 := ⟨(tb_at (i := 633) (by decide +kernel)), (tb_at (i := 6) (by decide +kernel)), ⟨by decide +kernel, by decide +kernel, by decide +kernel⟩, by decide⟩
theorem ksX7_hasRoom : ax_MV mX7_hasRoom 0 := ⟨kmX7_hasRoom, (tb_at (i := 631) (by decide +kernel)), (tb_at (i := 632) (by decide +kernel))⟩
theorem kmX7_add : ax_MK mX7_add 4 := ⟨(tb_at (i := 637) (by decide +kernel)), (tb_at (i := 6) (by decide +kernel)), ⟨by decide +kernel, by decide +kernel, by decide +kernel⟩, by decide⟩
theorem ksX7_add : ax_MV mX7_add 4 := ⟨kmX7_add, (tb_at (i := 635) (by decide +kernel)), (tb_at (i := 636) (by decide +kernel))⟩
theorem kmX7_countOtherwise : ax_MK mX7_countOtherwise 2 := ⟨(tb_at (i := 646) (by decide +kernel)), (tb_at (i := 6) (by decide +kernel)), ⟨by decide +kernel, by decide +kernel, by decide +kernel⟩, by decide⟩
theorem ksX7_countOtherwise : ax_MV mX7_countOtherwise 2 := ⟨kmX7_countOtherwise, (tb_at (i := 644) (by decide +kernel)), (tb_at (i := 645) (by decide +kernel))⟩
theorem kmX7_pickNow : ax_MK mX7_pickNow 4 := ⟨(tb_at (i := 649) (by decide +kernel)), (tb_at (i := 6) (by decide +kernel)), ⟨by decide +kernel, by decide +kernel, by decide +kernel⟩, by decide⟩
theorem ksX7_pickNow : ax_MS mX7_pickNow 4 := ⟨kmX7_pickNow, (tb_at (i := 648) (by decide +kernel))⟩
theorem kmX8_init : ax_MK mX8_init 0 := ⟨(tb_at (i := 28) (by decide +kernel)), (tb_at (i := 2) (by decide +kernel)), ⟨by decide +kernel, by decide +kernel, by decide +kernel⟩, by decide⟩
theorem ksX8_init : ax_MI mX8_init 0 := ⟨kmX8_init, (tb_at (i := 27) (by decide +kernel)), rfl, rfl⟩
theorem kmX8_hasRoom : ax_MK mX8_hasRoom 0 := ⟨(tb_at (i := 215) (by decide +kernel)), (tb_at (i := 2) (by decide +kernel)), ⟨by decide +kernel, by decide +kernel, by decide +kernel⟩, by decide⟩
theorem ksX8_hasRoom : ax_MV mX8_hasRoom 0 := ⟨kmX8_hasRoom, (tb_at (i := 213) (by decide +kernel)), (tb_at (i := 214) (by decide +kernel))⟩
theorem kmX8_append : ax_MK mX8_append 1 := ⟨(tb_at (i := 226) (by decide +kernel)), (tb_at (i := 2) (by decide +kernel)), ⟨by decide +kernel, by decide +kernel, by decide +kernel⟩, by decide⟩
theorem ksX8_append : ax_MV mX8_append 1 := ⟨kmX8_append, (tb_at (i := 224) (by decide +kernel)), (tb_at (i := 225) (by decide +kernel))⟩
theorem kmX8_empty : ax_MK mX8_empty 0 := ⟨(tb_at (i := 307) (by decide +kernel)), (tb_at (i := 2) (by decide +kernel)), ⟨by decide +kernel, by decide +kernel, by decide +kernel⟩, by decide⟩
theorem ksX8_empty : ax_MV mX8_empty 0 := ⟨kmX8_empty, (tb_at (i := 305) (by decide +kernel)), (tb_at (i := 306) (by decide +kernel))⟩
theorem kmX8_tellInto : ax_MK mX8_tellInto 1 := ⟨(tb_at (i := 235) (by decide +kernel)), (tb_at (i := 2) (by decide +kernel)), ⟨by decide +kernel, by decide +kernel, by decide +kernel⟩, by decide⟩
theorem ksX8_tellInto : ax_MV mX8_tellInto 1 := ⟨kmX8_tellInto, (tb_at (i := 233) (by decide +kernel)), (tb_at (i := 234) (by decide +kernel))⟩
theorem kmX8_readClause : ax_MK mX8_readClause 1 := ⟨(tb_at (i := 251) (by decide +kernel)), (tb_at (i := 2) (by decide +kernel)), ⟨by decide +kernel, by decide +kernel, by decide +kernel⟩, by decide⟩
theorem ksX8_readClause : ax_MV mX8_readClause 1 := ⟨kmX8_readClause, (tb_at (i := 250) (by decide +kernel)), (List.mem_append_left _ (List.mem_of_getElem? (i := 2) (by decide +kernel)))⟩
theorem kmX8_readPerson : ax_MK mX8_readPerson 1 := ⟨(tb_at (i := 255) (by decide +kernel)), (tb_at (i := 2) (by decide +kernel)), ⟨by decide +kernel, by decide +kernel, by decide +kernel⟩, by decide⟩
theorem ksX8_readPerson : ax_MV mX8_readPerson 1 := ⟨kmX8_readPerson, (tb_at (i := 254) (by decide +kernel)), (List.mem_append_left _ (List.mem_of_getElem? (i := 3) (by decide +kernel)))⟩
theorem kmX8_readAcquaintance : ax_MK mX8_readAcquaintance 1 := ⟨(tb_at (i := 279) (by decide +kernel)), (tb_at (i := 2) (by decide +kernel)), ⟨by decide +kernel, by decide +kernel, by decide +kernel⟩, by decide⟩
theorem ksX8_readAcquaintance : ax_MV mX8_readAcquaintance 1 := ⟨kmX8_readAcquaintance, (tb_at (i := 278) (by decide +kernel)), (List.mem_append_left _ (List.mem_of_getElem? (i := 7) (by decide +kernel)))⟩
theorem kmX8_readNumber : ax_MK mX8_readNumber 1 := ⟨(tb_at (i := 263) (by decide +kernel)), (tb_at (i := 2) (by decide +kernel)), ⟨by decide +kernel, by decide +kernel, by decide +kernel⟩, by decide⟩
theorem ksX8_readNumber : ax_MV mX8_readNumber 1 := ⟨kmX8_readNumber, (tb_at (i := 262) (by decide +kernel)), (List.mem_append_left _ (List.mem_of_getElem? (i := 5) (by decide +kernel)))⟩
theorem kmX8_readEndOfClause : ax_MK mX8_readEndOfClause 0 := ⟨(tb_at (i := 270) (by decide +kernel)), (tb_at (i := 2) (by decide +kernel)), ⟨by decide +kernel, by decide +kernel, by decide +kernel⟩, by decide⟩
theorem ksX8_readEndOfClause : ax_MV mX8_readEndOfClause 0 := ⟨kmX8_readEndOfClause, (tb_at (i := 269) (by decide +kernel)), (List.mem_append_left _ (List.mem_of_getElem? (i := 6) (by decide +kernel)))⟩
theorem kmX8_skipBlanks : ax_MK mX8_skipBlanks 0 := ⟨(tb_at (i := 243) (by decide +kernel)), (tb_at (i := 2) (by decide +kernel)), ⟨by decide +kernel, by decide +kernel, by decide +kernel⟩, by decide⟩
theorem ksX8_skipBlanks : ax_MV mX8_skipBlanks 0 := ⟨kmX8_skipBlanks, (tb_at (i := 242) (by decide +kernel)), (List.mem_append_left _ (List.mem_of_getElem? (i := 0) (by decide +kernel)))⟩
theorem kmX8_letterHere : ax_MK mX8_letterHere 0 := ⟨(tb_at (i := 247) (by decide +kernel)), (tb_at (i := 2) (by decide +kernel)), ⟨by decide +kernel, by decide +kernel, by decide +kernel⟩, by decide⟩
theorem ksX8_letterHere : ax_MV mX8_letterHere 0 := ⟨kmX8_letterHere, (tb_at (i := 246) (by decide +kernel)), (List.mem_append_left _ (List.mem_of_getElem? (i := 1) (by decide +kernel)))⟩
theorem kmX8_isFigure : ax_MK mX8_isFigure 1 := ⟨(tb_at (i := 266) (by decide +kernel)), (tb_at (i := 2) (by decide +kernel)), ⟨by decide +kernel, by decide +kernel, by decide +kernel⟩, by decide⟩
theorem ksX8_isFigure : ax_MS mX8_isFigure 1 := ⟨kmX8_isFigure, (tb_at (i := 265) (by decide +kernel))⟩
theorem kmX8_blame : ax_MK mX8_blame 2 := ⟨(tb_at (i := 259) (by decide +kernel)), (tb_at (i := 2) (by decide +kernel)), ⟨by decide +kernel, by decide +kernel, by decide +kernel⟩, by decide⟩
theorem ksX8_blame : ax_MV mX8_blame 2 := ⟨kmX8_blame, (tb_at (i := 258) (by decide +kernel)), (List.mem_append_left _ (List.mem_of_getElem? (i := 4) (by decide +kernel)))⟩
theorem kmX9_init : ax_MK mX9_init 0 := ⟨(tb_at (i := 20) (by decide +kernel)), (tb_at (i := 1) (by decide +kernel)), ⟨by decide +kernel, by decide +kernel, by decide +kernel⟩, by decide⟩
theorem ksX9_init : ax_MI mX9_init 0 := ⟨kmX9_init, (tb_at (i := 19) (by decide +kernel)), rfl, rfl⟩
theorem kmX9_feed : ax_MK mX9_feed 1 := ⟨(tb_at (i := 208) (by decide +kernel)), (tb_at (i := 1) (by decide +kernel)), ⟨by decide +kernel, by decide +kernel, by decide +kernel⟩, by decide⟩
theorem ksX9_feed : ax_MV mX9_feed 1 := ⟨kmX9_feed, (tb_at (i := 206) (by decide +kernel)), (tb_at (i := 207) (by decide +kernel))⟩
theorem kmX9_place : ax_MK mX9_place 0 := ⟨(tb_at (i := 231) (by decide +kernel)), (tb_at (i := 1) (by decide +kernel)), ⟨by decide +kernel, by decide +kernel, by decide +kernel⟩, by decide⟩
theorem ksX9_place : ax_MV mX9_place 0 := ⟨kmX9_place, (tb_at (i := 229) (by decide +kernel)), (tb_at (i := 230) (by decide +kernel))⟩
theorem kmX9_fault : ax_MK mX9_fault 0 := ⟨(tb_at (i := 334) (by decide +kernel)), (tb_at (i := 1) (by decide +kernel)), ⟨by decide +kernel, by decide +kernel, by decide +kernel⟩, by decide⟩
theorem ksX9_fault : ax_MV mX9_fault 0 := ⟨kmX9_fault, (tb_at (i := 332) (by decide +kernel)), (tb_at (i := 333) (by decide +kernel))⟩
theorem kmX9_told : ax_MK mX9_told 1 := ⟨(tb_at (i := 338) (by decide +kernel)), (tb_at (i := 1) (by decide +kernel)), ⟨by decide +kernel, by decide +kernel, by decide +kernel⟩, by decide⟩
theorem ksX9_told : ax_MV mX9_told 1 := ⟨kmX9_told, (tb_at (i := 336) (by decide +kernel)), (tb_at (i := 337) (by decide +kernel))⟩
theorem kmX9_person : ax_MK mX9_person 2 := ⟨(tb_at (i := 373) (by decide +kernel)), (tb_at (i := 1) (by decide +kernel)), ⟨by decide +kernel, by decide +kernel, by decide +kernel⟩, by decide⟩
theorem ksX9_person : ax_MV mX9_person 2 := ⟨kmX9_person, (tb_at (i := 371) (by decide +kernel)), (tb_at (i := 372) (by decide +kernel))⟩
theorem kmX9_remembers : ax_MK mX9_remembers 2 := ⟨(tb_at (i := 389) (by decide +kernel)), (tb_at (i := 1) (by decide +kernel)), ⟨by decide +kernel, by decide +kernel, by decide +kernel⟩, by decide⟩
theorem ksX9_remembers : ax_MV mX9_remembers 2 := ⟨kmX9_remembers, (tb_at (i := 387) (by decide +kernel)), (tb_at (i := 388) (by decide +kernel))⟩
theorem kmX9_year : ax_MK mX9_year 1 := ⟨(tb_at (i := 395) (by decide +kernel)), (tb_at (i := 1) (by decide +kernel)), ⟨by decide +kernel, by decide +kernel, by decide +kernel⟩, by decide⟩
theorem ksX9_year : ax_MV mX9_year 1 := ⟨kmX9_year, (tb_at (i := 393) (by decide +kernel)), (tb_at (i := 394) (by decide +kernel))⟩
theorem kmX9_meet : ax_MK mX9_meet 2 := ⟨(tb_at (i := 425) (by decide +kernel)), (tb_at (i := 1) (by decide +kernel)), ⟨by decide +kernel, by decide +kernel, by decide +kernel⟩, by decide⟩
theorem ksX9_meet : ax_MV mX9_meet 2 := ⟨kmX9_meet, (tb_at (i := 423) (by decide +kernel)), (tb_at (i := 424) (by decide +kernel))⟩
theorem kmX9_forget : ax_MK mX9_forget 2 := ⟨(tb_at (i := 434) (by decide +kernel)), (tb_at (i := 1) (by decide +kernel)), ⟨by decide +kernel, by decide +kernel, by decide +kernel⟩, by decide⟩
theorem ksX9_forget : ax_MV mX9_forget 2 := ⟨kmX9_forget, (tb_at (i := 432) (by decide +kernel)), (tb_at (i := 433) (by decide +kernel))⟩
theorem kmX9_parade : ax_MK mX9_parade 3 := ⟨(tb_at (i := 443) (by decide +kernel)), (tb_at (i := 1) (by decide +kernel)), ⟨by decide +kernel, by decide +kernel, by decide +kernel⟩, by decide⟩
theorem ksX9_parade : ax_MV mX9_parade 3 := ⟨kmX9_parade, (tb_at (i := 441) (by decide +kernel)), (tb_at (i := 442) (by decide +kernel))⟩
theorem kmX9_mark : ax_MK mX9_mark 2 := ⟨(tb_at (i := 479) (by decide +kernel)), (tb_at (i := 1) (by decide +kernel)), ⟨by decide +kernel, by decide +kernel, by decide +kernel⟩, by decide⟩
theorem ksX9_mark : ax_MV mX9_mark 2 := ⟨kmX9_mark, (tb_at (i := 477) (by decide +kernel)), (tb_at (i := 478) (by decide +kernel))⟩
theorem kmX9_drift : ax_MK mX9_drift 1 := ⟨(tb_at (i := 484) (by decide +kernel)), (tb_at (i := 1) (by decide +kernel)), ⟨by decide +kernel, by decide +kernel, by decide +kernel⟩, by decide⟩
theorem ksX9_drift : ax_MV mX9_drift 1 := ⟨kmX9_drift, (tb_at (i := 482) (by decide +kernel)), (tb_at (i := 483) (by decide +kernel))⟩
theorem kmX9_undo : ax_MK mX9_undo 0 := ⟨(tb_at (i := 499) (by decide +kernel)), (tb_at (i := 1) (by decide +kernel)), ⟨by decide +kernel, by decide +kernel, by decide +kernel⟩, by decide⟩
theorem ksX9_undo : ax_MV mX9_undo 0 := ⟨kmX9_undo, (tb_at (i := 497) (by decide +kernel)), (tb_at (i := 498) (by decide +kernel))⟩
theorem kmX9_sure : ax_MK mX9_sure 3 := ⟨(tb_at (i := 507) (by decide +kernel)), (tb_at (i := 1) (by decide +kernel)), ⟨by decide +kernel, by decide +kernel, by decide +kernel⟩, by decide⟩
theorem ksX9_sure : ax_MV mX9_sure 3 := ⟨kmX9_sure, (tb_at (i := 505) (by decide +kernel)), (tb_at (i := 506) (by decide +kernel))⟩
theorem kmX9_bestRow : ax_MK mX9_bestRow 3 := ⟨(tb_at (i := 518) (by decide +kernel)), (tb_at (i := 1) (by decide +kernel)), ⟨by decide +kernel, by decide +kernel, by decide +kernel⟩, by decide⟩
theorem ksX9_bestRow : ax_MV mX9_bestRow 3 := ⟨kmX9_bestRow, (tb_at (i := 516) (by decide +kernel)), (tb_at (i := 517) (by decide +kernel))⟩
theorem kmX9_odds : ax_MK mX9_odds 4 := ⟨(tb_at (i := 539) (by decide +kernel)), (tb_at (i := 1) (by decide +kernel)), ⟨by decide +kernel, by decide +kernel, by decide +kernel⟩, by decide⟩
theorem ksX9_odds : ax_MV mX9_odds 4 := ⟨kmX9_odds, (tb_at (i := 537) (by decide +kernel)), (tb_at (i := 538) (by decide +kernel))⟩
theorem kmX9_ask : ax_MK mX9_ask 2 := ⟨(tb_at (i := 550) (by decide +kernel)), (tb_at (i := 1) (by decide +kernel)), ⟨by decide +kernel, by decide +kernel, by decide +kernel⟩, by decide⟩
theorem ksX9_ask : ax_MV mX9_ask 2 := ⟨kmX9_ask, (tb_at (i := 548) (by decide +kernel)), (tb_at (i := 549) (by decide +kernel))⟩
theorem kmX9_ring : ax_MK mX9_ring 1 := ⟨(tb_at (i := 558) (by decide +kernel)), (tb_at (i := 1) (by decide +kernel)), ⟨by decide +kernel, by decide +kernel, by decide +kernel⟩, by decide⟩
theorem ksX9_ring : ax_MV mX9_ring 1 := ⟨kmX9_ring, (tb_at (i := 556) (by decide +kernel)), (tb_at (i := 557) (by decide +kernel))⟩
theorem kmX9_rings : ax_MK mX9_rings 1 := ⟨(tb_at (i := 566) (by decide +kernel)), (tb_at (i := 1) (by decide +kernel)), ⟨by decide +kernel, by decide +kernel, by decide +kernel⟩, by decide⟩
theorem ksX9_rings : ax_MV mX9_rings 1 := ⟨kmX9_rings, (tb_at (i := 564) (by decide +kernel)), (tb_at (i := 565) (by decide +kernel))⟩
theorem kmX9_mask : ax_MK mX9_mask 4 := ⟨(tb_at (i := 584) (by decide +kernel)), (tb_at (i := 1) (by decide +kernel)), ⟨by decide +kernel, by decide +kernel, by decide +kernel⟩, by decide⟩
theorem ksX9_mask : ax_MV mX9_mask 4 := ⟨kmX9_mask, (tb_at (i := 582) (by decide +kernel)), (tb_at (i := 583) (by decide +kernel))⟩
theorem kmX9_spoil : ax_MK mX9_spoil 4 := ⟨(tb_at (i := 594) (by decide +kernel)), (tb_at (i := 1) (by decide +kernel)), ⟨by decide +kernel, by decide +kernel, by decide +kernel⟩, by decide⟩
theorem ksX9_spoil : ax_MV mX9_spoil 4 := ⟨kmX9_spoil, (tb_at (i := 592) (by decide +kernel)), (tb_at (i := 593) (by decide +kernel))⟩
theorem kmX9_impostor : ax_MK mX9_impostor 5 := ⟨(tb_at (i := 598) (by decide +kernel)), (tb_at (i := 1) (by decide +kernel)), ⟨by decide +kernel, by decide +kernel, by decide +kernel⟩, by decide⟩
theorem ksX9_impostor : ax_MV mX9_impostor 5 := ⟨kmX9_impostor, (tb_at (i := 596) (by decide +kernel)), (tb_at (i := 597) (by decide +kernel))⟩
theorem kmX9_lost : ax_MK mX9_lost 1 := ⟨(tb_at (i := 608) (by decide +kernel)), (tb_at (i := 1) (by decide +kernel)), ⟨by decide +kernel, by decide +kernel, by decide +kernel⟩, by decide⟩
theorem ksX9_lost : ax_MV mX9_lost 1 := ⟨kmX9_lost, (tb_at (i := 606) (by decide +kernel)), (tb_at (i := 607) (by decide +kernel))⟩
theorem kmX9_alike : ax_MK mX9_alike 1 := ⟨(tb_at (i := 621) (by decide +kernel)), (tb_at (i := 1) (by decide +kernel)), ⟨by decide +kernel, by decide +kernel, by decide +kernel⟩, by decide⟩
theorem ksX9_alike : ax_MV mX9_alike 1 := ⟨kmX9_alike, (tb_at (i := 619) (by decide +kernel)), (tb_at (i := 620) (by decide +kernel))⟩
theorem kmX9_see : ax_MK mX9_see 4 := ⟨(tb_at (i := 629) (by decide +kernel)), (tb_at (i := 1) (by decide +kernel)), ⟨by decide +kernel, by decide +kernel, by decide +kernel⟩, by decide⟩
theorem ksX9_see : ax_MV mX9_see 4 := ⟨kmX9_see, (tb_at (i := 627) (by decide +kernel)), (tb_at (i := 628) (by decide +kernel))⟩
theorem kmX9_honest : ax_MK mX9_honest 0 := ⟨(tb_at (i := 642) (by decide +kernel)), (tb_at (i := 1) (by decide +kernel)), ⟨by decide +kernel, by decide +kernel, by decide +kernel⟩, by decide⟩
theorem ksX9_honest : ax_MV mX9_honest 0 := ⟨kmX9_honest, (tb_at (i := 640) (by decide +kernel)), (tb_at (i := 641) (by decide +kernel))⟩
theorem kmX9_nods : ax_MK mX9_nods 1 := ⟨(tb_at (i := 656) (by decide +kernel)), (tb_at (i := 1) (by decide +kernel)), ⟨by decide +kernel, by decide +kernel, by decide +kernel⟩, by decide⟩
theorem ksX9_nods : ax_MV mX9_nods 1 := ⟨kmX9_nods, (tb_at (i := 654) (by decide +kernel)), (tb_at (i := 655) (by decide +kernel))⟩
theorem kmX9_showNext : ax_MK mX9_showNext 2 := ⟨(tb_at (i := 660) (by decide +kernel)), (tb_at (i := 1) (by decide +kernel)), ⟨by decide +kernel, by decide +kernel, by decide +kernel⟩, by decide⟩
theorem ksX9_showNext : ax_MV mX9_showNext 2 := ⟨kmX9_showNext, (tb_at (i := 658) (by decide +kernel)), (tb_at (i := 659) (by decide +kernel))⟩
theorem kmX9_write : ax_MK mX9_write 2 := ⟨(tb_at (i := 674) (by decide +kernel)), (tb_at (i := 1) (by decide +kernel)), ⟨by decide +kernel, by decide +kernel, by decide +kernel⟩, by decide⟩
theorem ksX9_write : ax_MV mX9_write 2 := ⟨kmX9_write, (tb_at (i := 672) (by decide +kernel)), (tb_at (i := 673) (by decide +kernel))⟩
theorem kmX9_tear : ax_MK mX9_tear 0 := ⟨(tb_at (i := 687) (by decide +kernel)), (tb_at (i := 1) (by decide +kernel)), ⟨by decide +kernel, by decide +kernel, by decide +kernel⟩, by decide⟩
theorem ksX9_tear : ax_MV mX9_tear 0 := ⟨kmX9_tear, (tb_at (i := 685) (by decide +kernel)), (tb_at (i := 686) (by decide +kernel))⟩
theorem kmX9_judge : ax_MK mX9_judge 0 := ⟨(tb_at (i := 691) (by decide +kernel)), (tb_at (i := 1) (by decide +kernel)), ⟨by decide +kernel, by decide +kernel, by decide +kernel⟩, by decide⟩
theorem ksX9_judge : ax_MV mX9_judge 0 := ⟨kmX9_judge, (tb_at (i := 689) (by decide +kernel)), (tb_at (i := 690) (by decide +kernel))⟩
theorem kmX9_seed : ax_MK mX9_seed 1 := ⟨(tb_at (i := 700) (by decide +kernel)), (tb_at (i := 1) (by decide +kernel)), ⟨by decide +kernel, by decide +kernel, by decide +kernel⟩, by decide⟩
theorem ksX9_seed : ax_MV mX9_seed 1 := ⟨kmX9_seed, (tb_at (i := 698) (by decide +kernel)), (tb_at (i := 699) (by decide +kernel))⟩
theorem kmX9_keep : ax_MK mX9_keep 1 := ⟨(tb_at (i := 704) (by decide +kernel)), (tb_at (i := 1) (by decide +kernel)), ⟨by decide +kernel, by decide +kernel, by decide +kernel⟩, by decide⟩
theorem ksX9_keep : ax_MV mX9_keep 1 := ⟨kmX9_keep, (tb_at (i := 702) (by decide +kernel)), (tb_at (i := 703) (by decide +kernel))⟩
theorem kmX9_goBack : ax_MK mX9_goBack 1 := ⟨(tb_at (i := 717) (by decide +kernel)), (tb_at (i := 1) (by decide +kernel)), ⟨by decide +kernel, by decide +kernel, by decide +kernel⟩, by decide⟩
theorem ksX9_goBack : ax_MV mX9_goBack 1 := ⟨kmX9_goBack, (tb_at (i := 715) (by decide +kernel)), (tb_at (i := 716) (by decide +kernel))⟩
theorem kmX9_refusal : ax_MK mX9_refusal 4 := ⟨(tb_at (i := 218) (by decide +kernel)), (tb_at (i := 1) (by decide +kernel)), ⟨by decide +kernel, by decide +kernel, by decide +kernel⟩, by decide⟩
theorem ksX9_refusal : ax_MS mX9_refusal 4 := ⟨kmX9_refusal, (tb_at (i := 217) (by decide +kernel))⟩
theorem kmX9_refusalOfYears : ax_MK mX9_refusalOfYears 1 := ⟨(tb_at (i := 399) (by decide +kernel)), (tb_at (i := 1) (by decide +kernel)), ⟨by decide +kernel, by decide +kernel, by decide +kernel⟩, by decide⟩
theorem ksX9_refusalOfYears : ax_MV mX9_refusalOfYears 1 := ⟨kmX9_refusalOfYears, (tb_at (i := 398) (by decide +kernel)), (List.mem_append_left _ (List.mem_of_getElem? (i := 8) (by decide +kernel)))⟩
theorem kmX9_isAsked : ax_MK mX9_isAsked 3 := ⟨(tb_at (i := 447) (by decide +kernel)), (tb_at (i := 1) (by decide +kernel)), ⟨by decide +kernel, by decide +kernel, by decide +kernel⟩, by decide⟩
theorem ksX9_isAsked : ax_MV mX9_isAsked 3 := ⟨kmX9_isAsked, (tb_at (i := 446) (by decide +kernel)), (List.mem_append_left _ (List.mem_of_getElem? (i := 10) (by decide +kernel)))⟩
theorem kmX9_isLongEnough : ax_MK mX9_isLongEnough 1 := ⟨(tb_at (i := 461) (by decide +kernel)), (tb_at (i := 1) (by decide +kernel)), ⟨by decide +kernel, by decide +kernel, by decide +kernel⟩, by decide⟩
theorem ksX9_isLongEnough : ax_MS mX9_isLongEnough 1 := ⟨kmX9_isLongEnough, (tb_at (i := 460) (by decide +kernel))⟩
theorem kmX9_isRowLength : ax_MK mX9_isRowLength 1 := ⟨(tb_at (i := 521) (by decide +kernel)), (tb_at (i := 1) (by decide +kernel)), ⟨by decide +kernel, by decide +kernel, by decide +kernel⟩, by decide⟩
theorem ksX9_isRowLength : ax_MS mX9_isRowLength 1 := ⟨kmX9_isRowLength, (tb_at (i := 520) (by decide +kernel))⟩
theorem kmX9_isWithin : ax_MK mX9_isWithin 3 := ⟨(tb_at (i := 211) (by decide +kernel)), (tb_at (i := 1) (by decide +kernel)), ⟨by decide +kernel, by decide +kernel, by decide +kernel⟩, by decide⟩
theorem ksX9_isWithin : ax_MS mX9_isWithin 3 := ⟨kmX9_isWithin, (tb_at (i := 210) (by decide +kernel))⟩
theorem kmX9_hasBit : ax_MK mX9_hasBit 2 := ⟨(tb_at (i := 458) (by decide +kernel)), (tb_at (i := 1) (by decide +kernel)), ⟨by decide +kernel, by decide +kernel, by decide +kernel⟩, by decide⟩
theorem ksX9_hasBit : ax_MS mX9_hasBit 2 := ⟨kmX9_hasBit, (tb_at (i := 457) (by decide +kernel))⟩
theorem kmX9_meetByDraws : ax_MK mX9_meetByDraws 0 := ⟨(tb_at (i := 488) (by decide +kernel)), (tb_at (i := 1) (by decide +kernel)), ⟨by decide +kernel, by decide +kernel, by decide +kernel⟩, by decide⟩
theorem ksX9_meetByDraws : ax_MV mX9_meetByDraws 0 := ⟨kmX9_meetByDraws, (tb_at (i := 487) (by decide +kernel)), (List.mem_append_left _ (List.mem_of_getElem? (i := 11) (by decide +kernel)))⟩
theorem kmX9_imageOf : ax_MK mX9_imageOf 1 := ⟨(tb_at (i := 708) (by decide +kernel)), (tb_at (i := 1) (by decide +kernel)), ⟨by decide +kernel, by decide +kernel, by decide +kernel⟩, by decide⟩
theorem ksX9_imageOf : ax_MV mX9_imageOf 1 := ⟨kmX9_imageOf, (tb_at (i := 707) (by decide +kernel)), (List.mem_append_left _ (List.mem_of_getElem? (i := 12) (by decide +kernel)))⟩
theorem kmX10_init : ax_MK mX10_init 0 := ⟨(tb_at (i := 722) (by decide +kernel)), (tb_at (i := 10) (by decide +kernel)), ⟨by decide +kernel, by decide +kernel, by decide +kernel⟩, by decide⟩
theorem ksX10_init : ax_MI mX10_init 0 := ⟨kmX10_init, (tb_at (i := 721) (by decide +kernel)), rfl, rfl⟩
theorem kmX10_in : ax_MK mX10_in 3 := ⟨(tb_at (i := 814) (by decide +kernel)), (tb_at (i := 10) (by decide +kernel)), ⟨by decide +kernel, by decide +kernel, by decide +kernel⟩, by decide⟩
theorem ksX10_in : ax_MS mX10_in 3 := ⟨kmX10_in, (tb_at (i := 813) (by decide +kernel))⟩
theorem kmX10_has : ax_MK mX10_has 2 := ⟨(tb_at (i := 950) (by decide +kernel)), (tb_at (i := 10) (by decide +kernel)), ⟨by decide +kernel, by decide +kernel, by decide +kernel⟩, by decide⟩
theorem ksX10_has : ax_MS mX10_has 2 := ⟨kmX10_has, (tb_at (i := 949) (by decide +kernel))⟩
theorem kmX10_bits : ax_MK mX10_bits 1 := ⟨(tb_at (i := 885) (by decide +kernel)), (tb_at (i := 10) (by decide +kernel)), ⟨by decide +kernel, by decide +kernel, by decide +kernel⟩, by decide⟩
theorem ksX10_bits : ax_MS mX10_bits 1 := ⟨kmX10_bits, (tb_at (i := 884) (by decide +kernel))⟩
theorem kmX10_isPerson : ax_MK mX10_isPerson 1 := ⟨(tb_at (i := 893) (by decide +kernel)), (tb_at (i := 10) (by decide +kernel)), ⟨by decide +kernel, by decide +kernel, by decide +kernel⟩, by decide⟩
theorem ksX10_isPerson : ax_MV mX10_isPerson 1 := ⟨kmX10_isPerson, (tb_at (i := 892) (by decide +kernel)), (List.mem_append_left _ (List.mem_of_getElem? (i := 26) (by decide +kernel)))⟩
theorem kmX10_areTwo : ax_MK mX10_areTwo 2 := ⟨(tb_at (i := 906) (by decide +kernel)), (tb_at (i := 10) (by decide +kernel)), ⟨by decide +kernel, by decide +kernel, by decide +kernel⟩, by decide⟩
theorem ksX10_areTwo : ax_MV mX10_areTwo 2 := ⟨kmX10_areTwo, (tb_at (i := 905) (by decide +kernel)), (List.mem_append_left _ (List.mem_of_getElem? (i := 28) (by decide +kernel)))⟩
theorem kmX10_isRow : ax_MK mX10_isRow 1 := ⟨(tb_at (i := 947) (by decide +kernel)), (tb_at (i := 10) (by decide +kernel)), ⟨by decide +kernel, by decide +kernel, by decide +kernel⟩, by decide⟩
theorem ksX10_isRow : ax_MV mX10_isRow 1 := ⟨kmX10_isRow, (tb_at (i := 946) (by decide +kernel)), (List.mem_append_left _ (List.mem_of_getElem? (i := 33) (by decide +kernel)))⟩
theorem kmX10_feed : ax_MK mX10_feed 1 := ⟨(tb_at (i := 810) (by decide +kernel)), (tb_at (i := 10) (by decide +kernel)), ⟨by decide +kernel, by decide +kernel, by decide +kernel⟩, by decide⟩
theorem ksX10_feed : ax_MV mX10_feed 1 := ⟨kmX10_feed, (tb_at (i := 808) (by decide +kernel)), (tb_at (i := 809) (by decide +kernel))⟩
theorem kmX10_here : ax_MK mX10_here 0 := ⟨(tb_at (i := 824) (by decide +kernel)), (tb_at (i := 10) (by decide +kernel)), ⟨by decide +kernel, by decide +kernel, by decide +kernel⟩, by decide⟩
theorem ksX10_here : ax_MV mX10_here 0 := ⟨kmX10_here, (tb_at (i := 823) (by decide +kernel)), (List.mem_append_left _ (List.mem_of_getElem? (i := 13) (by decide +kernel)))⟩
theorem kmX10_fails : ax_MK mX10_fails 2 := ⟨(tb_at (i := 832) (by decide +kernel)), (tb_at (i := 10) (by decide +kernel)), ⟨by decide +kernel, by decide +kernel, by decide +kernel⟩, by decide⟩
theorem ksX10_fails : ax_MV mX10_fails 2 := ⟨kmX10_fails, (tb_at (i := 831) (by decide +kernel)), (List.mem_append_left _ (List.mem_of_getElem? (i := 15) (by decide +kernel)))⟩
theorem kmX10_takeNumber : ax_MK mX10_takeNumber 2 := ⟨(tb_at (i := 844) (by decide +kernel)), (tb_at (i := 10) (by decide +kernel)), ⟨by decide +kernel, by decide +kernel, by decide +kernel⟩, by decide⟩
theorem ksX10_takeNumber : ax_MV mX10_takeNumber 2 := ⟨kmX10_takeNumber, (tb_at (i := 843) (by decide +kernel)), (List.mem_append_left _ (List.mem_of_getElem? (i := 18) (by decide +kernel)))⟩
theorem kmX10_into : ax_MK mX10_into 4 := ⟨(tb_at (i := 840) (by decide +kernel)), (tb_at (i := 10) (by decide +kernel)), ⟨by decide +kernel, by decide +kernel, by decide +kernel⟩, by decide⟩
theorem ksX10_into : ax_MV mX10_into 4 := ⟨kmX10_into, (tb_at (i := 839) (by decide +kernel)), (List.mem_append_left _ (List.mem_of_getElem? (i := 17) (by decide +kernel)))⟩
theorem kmX10_takePerson : ax_MK mX10_takePerson 0 := ⟨(tb_at (i := 836) (by decide +kernel)), (tb_at (i := 10) (by decide +kernel)), ⟨by decide +kernel, by decide +kernel, by decide +kernel⟩, by decide⟩
theorem ksX10_takePerson : ax_MV mX10_takePerson 0 := ⟨kmX10_takePerson, (tb_at (i := 835) (by decide +kernel)), (List.mem_append_left _ (List.mem_of_getElem? (i := 16) (by decide +kernel)))⟩
theorem kmX10_takeKnows : ax_MK mX10_takeKnows 0 := ⟨(tb_at (i := 850) (by decide +kernel)), (tb_at (i := 10) (by decide +kernel)), ⟨by decide +kernel, by decide +kernel, by decide +kernel⟩, by decide⟩
theorem ksX10_takeKnows : ax_MV mX10_takeKnows 0 := ⟨kmX10_takeKnows, (tb_at (i := 849) (by decide +kernel)), (List.mem_append_left _ (List.mem_of_getElem? (i := 19) (by decide +kernel)))⟩
theorem kmX10_takeClause : ax_MK mX10_takeClause 0 := ⟨(tb_at (i := 828) (by decide +kernel)), (tb_at (i := 10) (by decide +kernel)), ⟨by decide +kernel, by decide +kernel, by decide +kernel⟩, by decide⟩
theorem ksX10_takeClause : ax_MV mX10_takeClause 0 := ⟨kmX10_takeClause, (tb_at (i := 827) (by decide +kernel)), (List.mem_append_left _ (List.mem_of_getElem? (i := 14) (by decide +kernel)))⟩
theorem kmX10_takeRead : ax_MK mX10_takeRead 0 := ⟨(tb_at (i := 854) (by decide +kernel)), (tb_at (i := 10) (by decide +kernel)), ⟨by decide +kernel, by decide +kernel, by decide +kernel⟩, by decide⟩
theorem ksX10_takeRead : ax_MV mX10_takeRead 0 := ⟨kmX10_takeRead, (tb_at (i := 853) (by decide +kernel)), (List.mem_append_left _ (List.mem_of_getElem? (i := 20) (by decide +kernel)))⟩
theorem kmX10_place : ax_MK mX10_place 0 := ⟨(tb_at (i := 820) (by decide +kernel)), (tb_at (i := 10) (by decide +kernel)), ⟨by decide +kernel, by decide +kernel, by decide +kernel⟩, by decide⟩
theorem ksX10_place : ax_MV mX10_place 0 := ⟨kmX10_place, (tb_at (i := 818) (by decide +kernel)), (tb_at (i := 819) (by decide +kernel))⟩
theorem kmX10_fault : ax_MK mX10_fault 0 := ⟨(tb_at (i := 858) (by decide +kernel)), (tb_at (i := 10) (by decide +kernel)), ⟨by decide +kernel, by decide +kernel, by decide +kernel⟩, by decide⟩
theorem ksX10_fault : ax_MV mX10_fault 0 := ⟨kmX10_fault, (tb_at (i := 856) (by decide +kernel)), (tb_at (i := 857) (by decide +kernel))⟩
theorem kmX10_twoOfOne : ax_MK mX10_twoOfOne 0 := ⟨(tb_at (i := 866) (by decide +kernel)), (tb_at (i := 10) (by decide +kernel)), ⟨by decide +kernel, by decide +kernel, by decide +kernel⟩, by decide⟩
theorem ksX10_twoOfOne : ax_MV mX10_twoOfOne 0 := ⟨kmX10_twoOfOne, (tb_at (i := 865) (by decide +kernel)), (List.mem_append_left _ (List.mem_of_getElem? (i := 21) (by decide +kernel)))⟩
theorem kmX10_nobody : ax_MK mX10_nobody 0 := ⟨(tb_at (i := 870) (by decide +kernel)), (tb_at (i := 10) (by decide +kernel)), ⟨by decide +kernel, by decide +kernel, by decide +kernel⟩, by decide⟩
theorem ksX10_nobody : ax_MV mX10_nobody 0 := ⟨kmX10_nobody, (tb_at (i := 869) (by decide +kernel)), (List.mem_append_left _ (List.mem_of_getElem? (i := 22) (by decide +kernel)))⟩
theorem kmX10_remembered : ax_MK mX10_remembered 2 := ⟨(tb_at (i := 882) (by decide +kernel)), (tb_at (i := 10) (by decide +kernel)), ⟨by decide +kernel, by decide +kernel, by decide +kernel⟩, by decide⟩
theorem ksX10_remembered : ax_MV mX10_remembered 2 := ⟨kmX10_remembered, (tb_at (i := 881) (by decide +kernel)), (List.mem_append_left _ (List.mem_of_getElem? (i := 25) (by decide +kernel)))⟩
theorem kmX10_knownBy : ax_MK mX10_knownBy 1 := ⟨(tb_at (i := 878) (by decide +kernel)), (tb_at (i := 10) (by decide +kernel)), ⟨by decide +kernel, by decide +kernel, by decide +kernel⟩, by decide⟩
theorem ksX10_knownBy : ax_MV mX10_knownBy 1 := ⟨kmX10_knownBy, (tb_at (i := 877) (by decide +kernel)), (List.mem_append_left _ (List.mem_of_getElem? (i := 24) (by decide +kernel)))⟩
theorem kmX10_whoKnow : ax_MK mX10_whoKnow 1 := ⟨(tb_at (i := 898) (by decide +kernel)), (tb_at (i := 10) (by decide +kernel)), ⟨by decide +kernel, by decide +kernel, by decide +kernel⟩, by decide⟩
theorem ksX10_whoKnow : ax_MV mX10_whoKnow 1 := ⟨kmX10_whoKnow, (tb_at (i := 897) (by decide +kernel)), (List.mem_append_left _ (List.mem_of_getElem? (i := 27) (by decide +kernel)))⟩
theorem kmX10_pairs : ax_MK mX10_pairs 0 := ⟨(tb_at (i := 874) (by decide +kernel)), (tb_at (i := 10) (by decide +kernel)), ⟨by decide +kernel, by decide +kernel, by decide +kernel⟩, by decide⟩
theorem ksX10_pairs : ax_MV mX10_pairs 0 := ⟨kmX10_pairs, (tb_at (i := 873) (by decide +kernel)), (List.mem_append_left _ (List.mem_of_getElem? (i := 23) (by decide +kernel)))⟩
theorem kmX10_told : ax_MK mX10_told 1 := ⟨(tb_at (i := 862) (by decide +kernel)), (tb_at (i := 10) (by decide +kernel)), ⟨by decide +kernel, by decide +kernel, by decide +kernel⟩, by decide⟩
theorem ksX10_told : ax_MV mX10_told 1 := ⟨kmX10_told, (tb_at (i := 860) (by decide +kernel)), (tb_at (i := 861) (by decide +kernel))⟩
theorem kmX10_person : ax_MK mX10_person 2 := ⟨(tb_at (i := 889) (by decide +kernel)), (tb_at (i := 10) (by decide +kernel)), ⟨by decide +kernel, by decide +kernel, by decide +kernel⟩, by decide⟩
theorem ksX10_person : ax_MV mX10_person 2 := ⟨kmX10_person, (tb_at (i := 887) (by decide +kernel)), (tb_at (i := 888) (by decide +kernel))⟩
theorem kmX10_remembers : ax_MK mX10_remembers 2 := ⟨(tb_at (i := 902) (by decide +kernel)), (tb_at (i := 10) (by decide +kernel)), ⟨by decide +kernel, by decide +kernel, by decide +kernel⟩, by decide⟩
theorem ksX10_remembers : ax_MV mX10_remembers 2 := ⟨kmX10_remembers, (tb_at (i := 900) (by decide +kernel)), (tb_at (i := 901) (by decide +kernel))⟩
theorem kmX10_apart : ax_MK mX10_apart 2 := ⟨(tb_at (i := 931) (by decide +kernel)), (tb_at (i := 10) (by decide +kernel)), ⟨by decide +kernel, by decide +kernel, by decide +kernel⟩, by decide⟩
theorem ksX10_apart : ax_MS mX10_apart 2 := ⟨kmX10_apart, (tb_at (i := 930) (by decide +kernel))⟩
theorem kmX10_pickBy : ax_MK mX10_pickBy 2 := ⟨(tb_at (i := 958) (by decide +kernel)), (tb_at (i := 10) (by decide +kernel)), ⟨by decide +kernel, by decide +kernel, by decide +kernel⟩, by decide⟩
theorem ksX10_pickBy : ax_MV mX10_pickBy 2 := ⟨kmX10_pickBy, (tb_at (i := 957) (by decide +kernel)), (List.mem_append_left _ (List.mem_of_getElem? (i := 35) (by decide +kernel)))⟩
theorem kmX10_sureBy : ax_MK mX10_sureBy 3 := ⟨(tb_at (i := 987) (by decide +kernel)), (tb_at (i := 10) (by decide +kernel)), ⟨by decide +kernel, by decide +kernel, by decide +kernel⟩, by decide⟩
theorem ksX10_sureBy : ax_MV mX10_sureBy 3 := ⟨kmX10_sureBy, (tb_at (i := 986) (by decide +kernel)), (List.mem_append_left _ (List.mem_of_getElem? (i := 37) (by decide +kernel)))⟩
theorem kmX10_remember : ax_MK mX10_remember 0 := ⟨(tb_at (i := 920) (by decide +kernel)), (tb_at (i := 10) (by decide +kernel)), ⟨by decide +kernel, by decide +kernel, by decide +kernel⟩, by decide⟩
theorem ksX10_remember : ax_MV mX10_remember 0 := ⟨kmX10_remember, (tb_at (i := 919) (by decide +kernel)), (List.mem_append_left _ (List.mem_of_getElem? (i := 30) (by decide +kernel)))⟩
theorem kmX10_pass : ax_MK mX10_pass 0 := ⟨(tb_at (i := 924) (by decide +kernel)), (tb_at (i := 10) (by decide +kernel)), ⟨by decide +kernel, by decide +kernel, by decide +kernel⟩, by decide⟩
theorem ksX10_pass : ax_MV mX10_pass 0 := ⟨kmX10_pass, (tb_at (i := 923) (by decide +kernel)), (List.mem_append_left _ (List.mem_of_getElem? (i := 31) (by decide +kernel)))⟩
theorem kmX10_yearsRefused : ax_MK mX10_yearsRefused 1 := ⟨(tb_at (i := 914) (by decide +kernel)), (tb_at (i := 10) (by decide +kernel)), ⟨by decide +kernel, by decide +kernel, by decide +kernel⟩, by decide⟩
theorem ksX10_yearsRefused : ax_MV mX10_yearsRefused 1 := ⟨kmX10_yearsRefused, (tb_at (i := 913) (by decide +kernel)), (List.mem_append_left _ (List.mem_of_getElem? (i := 29) (by decide +kernel)))⟩
theorem kmX10_year : ax_MK mX10_year 1 := ⟨(tb_at (i := 910) (by decide +kernel)), (tb_at (i := 10) (by decide +kernel)), ⟨by decide +kernel, by decide +kernel, by decide +kernel⟩, by decide⟩
theorem ksX10_year : ax_MV mX10_year 1 := ⟨kmX10_year, (tb_at (i := 908) (by decide +kernel)), (tb_at (i := 909) (by decide +kernel))⟩
theorem kmX10_meet : ax_MK mX10_meet 2 := ⟨(tb_at (i := 928) (by decide +kernel)), (tb_at (i := 10) (by decide +kernel)), ⟨by decide +kernel, by decide +kernel, by decide +kernel⟩, by decide⟩
theorem ksX10_meet : ax_MV mX10_meet 2 := ⟨kmX10_meet, (tb_at (i := 926) (by decide +kernel)), (tb_at (i := 927) (by decide +kernel))⟩
theorem kmX10_forget : ax_MK mX10_forget 2 := ⟨(tb_at (i := 935) (by decide +kernel)), (tb_at (i := 10) (by decide +kernel)), ⟨by decide +kernel, by decide +kernel, by decide +kernel⟩, by decide⟩
theorem ksX10_forget : ax_MV mX10_forget 2 := ⟨kmX10_forget, (tb_at (i := 933) (by decide +kernel)), (tb_at (i := 934) (by decide +kernel))⟩
theorem kmX10_rowRefused : ax_MK mX10_rowRefused 3 := ⟨(tb_at (i := 943) (by decide +kernel)), (tb_at (i := 10) (by decide +kernel)), ⟨by decide +kernel, by decide +kernel, by decide +kernel⟩, by decide⟩
theorem ksX10_rowRefused : ax_MV mX10_rowRefused 3 := ⟨kmX10_rowRefused, (tb_at (i := 942) (by decide +kernel)), (List.mem_append_left _ (List.mem_of_getElem? (i := 32) (by decide +kernel)))⟩
theorem kmX10_unknownTo : ax_MK mX10_unknownTo 2 := ⟨(tb_at (i := 954) (by decide +kernel)), (tb_at (i := 10) (by decide +kernel)), ⟨by decide +kernel, by decide +kernel, by decide +kernel⟩, by decide⟩
theorem ksX10_unknownTo : ax_MV mX10_unknownTo 2 := ⟨kmX10_unknownTo, (tb_at (i := 953) (by decide +kernel)), (List.mem_append_left _ (List.mem_of_getElem? (i := 34) (by decide +kernel)))⟩
theorem kmX10_parade : ax_MK mX10_parade 3 := ⟨(tb_at (i := 939) (by decide +kernel)), (tb_at (i := 10) (by decide +kernel)), ⟨by decide +kernel, by decide +kernel, by decide +kernel⟩, by decide⟩
theorem ksX10_parade : ax_MV mX10_parade 3 := ⟨kmX10_parade, (tb_at (i := 937) (by decide +kernel)), (tb_at (i := 938) (by decide +kernel))⟩
theorem kmX10_mark : ax_MK mX10_mark 2 := ⟨(tb_at (i := 962) (by decide +kernel)), (tb_at (i := 10) (by decide +kernel)), ⟨by decide +kernel, by decide +kernel, by decide +kernel⟩, by decide⟩
theorem ksX10_mark : ax_MV mX10_mark 2 := ⟨kmX10_mark, (tb_at (i := 960) (by decide +kernel)), (tb_at (i := 961) (by decide +kernel))⟩
theorem kmX10_draw : ax_MK mX10_draw 1 := ⟨(tb_at (i := 971) (by decide +kernel)), (tb_at (i := 10) (by decide +kernel)), ⟨by decide +kernel, by decide +kernel, by decide +kernel⟩, by decide⟩
theorem ksX10_draw : ax_MV mX10_draw 1 := ⟨kmX10_draw, (tb_at (i := 970) (by decide +kernel)), (List.mem_append_left _ (List.mem_of_getElem? (i := 36) (by decide +kernel)))⟩
theorem kmX10_drift : ax_MK mX10_drift 1 := ⟨(tb_at (i := 967) (by decide +kernel)), (tb_at (i := 10) (by decide +kernel)), ⟨by decide +kernel, by decide +kernel, by decide +kernel⟩, by decide⟩
theorem ksX10_drift : ax_MV mX10_drift 1 := ⟨kmX10_drift, (tb_at (i := 965) (by decide +kernel)), (tb_at (i := 966) (by decide +kernel))⟩
theorem kmX10_undo : ax_MK mX10_undo 0 := ⟨(tb_at (i := 979) (by decide +kernel)), (tb_at (i := 10) (by decide +kernel)), ⟨by decide +kernel, by decide +kernel, by decide +kernel⟩, by decide⟩
theorem ksX10_undo : ax_MV mX10_undo 0 := ⟨kmX10_undo, (tb_at (i := 977) (by decide +kernel)), (tb_at (i := 978) (by decide +kernel))⟩
theorem kmX10_sure : ax_MK mX10_sure 3 := ⟨(tb_at (i := 983) (by decide +kernel)), (tb_at (i := 10) (by decide +kernel)), ⟨by decide +kernel, by decide +kernel, by decide +kernel⟩, by decide⟩
theorem ksX10_sure : ax_MV mX10_sure 3 := ⟨kmX10_sure, (tb_at (i := 981) (by decide +kernel)), (tb_at (i := 982) (by decide +kernel))⟩
theorem kmX10_bestRow : ax_MK mX10_bestRow 3 := ⟨(tb_at (i := 991) (by decide +kernel)), (tb_at (i := 10) (by decide +kernel)), ⟨by decide +kernel, by decide +kernel, by decide +kernel⟩, by decide⟩
theorem ksX10_bestRow : ax_MV mX10_bestRow 3 := ⟨kmX10_bestRow, (tb_at (i := 989) (by decide +kernel)), (tb_at (i := 990) (by decide +kernel))⟩
theorem kmX10_odds : ax_MK mX10_odds 4 := ⟨(tb_at (i := 997) (by decide +kernel)), (tb_at (i := 10) (by decide +kernel)), ⟨by decide +kernel, by decide +kernel, by decide +kernel⟩, by decide⟩
theorem ksX10_odds : ax_MV mX10_odds 4 := ⟨kmX10_odds, (tb_at (i := 995) (by decide +kernel)), (tb_at (i := 996) (by decide +kernel))⟩
theorem kmX10_ask : ax_MK mX10_ask 2 := ⟨(tb_at (i := 1002) (by decide +kernel)), (tb_at (i := 10) (by decide +kernel)), ⟨by decide +kernel, by decide +kernel, by decide +kernel⟩, by decide⟩
theorem ksX10_ask : ax_MV mX10_ask 2 := ⟨kmX10_ask, (tb_at (i := 1000) (by decide +kernel)), (tb_at (i := 1001) (by decide +kernel))⟩
theorem kmX10_ringOf : ax_MK mX10_ringOf 1 := ⟨(tb_at (i := 1010) (by decide +kernel)), (tb_at (i := 10) (by decide +kernel)), ⟨by decide +kernel, by decide +kernel, by decide +kernel⟩, by decide⟩
theorem ksX10_ringOf : ax_MV mX10_ringOf 1 := ⟨kmX10_ringOf, (tb_at (i := 1009) (by decide +kernel)), (List.mem_append_left _ (List.mem_of_getElem? (i := 38) (by decide +kernel)))⟩
theorem kmX10_ring : ax_MK mX10_ring 1 := ⟨(tb_at (i := 1006) (by decide +kernel)), (tb_at (i := 10) (by decide +kernel)), ⟨by decide +kernel, by decide +kernel, by decide +kernel⟩, by decide⟩
theorem ksX10_ring : ax_MV mX10_ring 1 := ⟨kmX10_ring, (tb_at (i := 1004) (by decide +kernel)), (tb_at (i := 1005) (by decide +kernel))⟩
theorem kmX10_rings : ax_MK mX10_rings 1 := ⟨(tb_at (i := 1014) (by decide +kernel)), (tb_at (i := 10) (by decide +kernel)), ⟨by decide +kernel, by decide +kernel, by decide +kernel⟩, by decide⟩
theorem ksX10_rings : ax_MV mX10_rings 1 := ⟨kmX10_rings, (tb_at (i := 1012) (by decide +kernel)), (tb_at (i := 1013) (by decide +kernel))⟩
theorem kmX10_mask : ax_MK mX10_mask 4 := ⟨(tb_at (i := 1018) (by decide +kernel)), (tb_at (i := 10) (by decide +kernel)), ⟨by decide +kernel, by decide +kernel, by decide +kernel⟩, by decide⟩
theorem ksX10_mask : ax_MV mX10_mask 4 := ⟨kmX10_mask, (tb_at (i := 1016) (by decide +kernel)), (tb_at (i := 1017) (by decide +kernel))⟩
theorem kmX10_spoil : ax_MK mX10_spoil 4 := ⟨(tb_at (i := 1022) (by decide +kernel)), (tb_at (i := 10) (by decide +kernel)), ⟨by decide +kernel, by decide +kernel, by decide +kernel⟩, by decide⟩
theorem ksX10_spoil : ax_MV mX10_spoil 4 := ⟨kmX10_spoil, (tb_at (i := 1020) (by decide +kernel)), (tb_at (i := 1021) (by decide +kernel))⟩
theorem kmX10_impostor : ax_MK mX10_impostor 5 := ⟨(tb_at (i := 1026) (by decide +kernel)), (tb_at (i := 10) (by decide +kernel)), ⟨by decide +kernel, by decide +kernel, by decide +kernel⟩, by decide⟩
theorem ksX10_impostor : ax_MV mX10_impostor 5 := ⟨kmX10_impostor, (tb_at (i := 1024) (by decide +kernel)), (tb_at (i := 1025) (by decide +kernel))⟩
theorem kmX10_lost : ax_MK mX10_lost 1 := ⟨(tb_at (i := 1030) (by decide +kernel)), (tb_at (i := 10) (by decide +kernel)), ⟨by decide +kernel, by decide +kernel, by decide +kernel⟩, by decide⟩
theorem ksX10_lost : ax_MV mX10_lost 1 := ⟨kmX10_lost, (tb_at (i := 1028) (by decide +kernel)), (tb_at (i := 1029) (by decide +kernel))⟩
theorem kmX10_alike : ax_MK mX10_alike 1 := ⟨(tb_at (i := 1034) (by decide +kernel)), (tb_at (i := 10) (by decide +kernel)), ⟨by decide +kernel, by decide +kernel, by decide +kernel⟩, by decide⟩
theorem ksX10_alike : ax_MV mX10_alike 1 := ⟨kmX10_alike, (tb_at (i := 1032) (by decide +kernel)), (tb_at (i := 1033) (by decide +kernel))⟩
theorem kmX10_see : ax_MK mX10_see 4 := ⟨(tb_at (i := 1038) (by decide +kernel)), (tb_at (i := 10) (by decide +kernel)), ⟨by decide +kernel, by decide +kernel, by decide +kernel⟩, by decide⟩
theorem ksX10_see : ax_MV mX10_see 4 := ⟨kmX10_see, (tb_at (i := 1036) (by decide +kernel)), (tb_at (i := 1037) (by decide +kernel))⟩
theorem kmX10_nodsOf : ax_MK mX10_nodsOf 1 := ⟨(tb_at (i := 1046) (by decide +kernel)), (tb_at (i := 10) (by decide +kernel)), ⟨by decide +kernel, by decide +kernel, by decide +kernel⟩, by decide⟩
theorem ksX10_nodsOf : ax_MV mX10_nodsOf 1 := ⟨kmX10_nodsOf, (tb_at (i := 1045) (by decide +kernel)), (List.mem_append_left _ (List.mem_of_getElem? (i := 39) (by decide +kernel)))⟩
theorem kmX10_honest : ax_MK mX10_honest 0 := ⟨(tb_at (i := 1042) (by decide +kernel)), (tb_at (i := 10) (by decide +kernel)), ⟨by decide +kernel, by decide +kernel, by decide +kernel⟩, by decide⟩
theorem ksX10_honest : ax_MV mX10_honest 0 := ⟨kmX10_honest, (tb_at (i := 1040) (by decide +kernel)), (tb_at (i := 1041) (by decide +kernel))⟩
theorem kmX10_nods : ax_MK mX10_nods 1 := ⟨(tb_at (i := 1050) (by decide +kernel)), (tb_at (i := 10) (by decide +kernel)), ⟨by decide +kernel, by decide +kernel, by decide +kernel⟩, by decide⟩
theorem ksX10_nods : ax_MV mX10_nods 1 := ⟨kmX10_nods, (tb_at (i := 1048) (by decide +kernel)), (tb_at (i := 1049) (by decide +kernel))⟩
theorem kmX10_spread : ax_MK mX10_spread 2 := ⟨(tb_at (i := 1058) (by decide +kernel)), (tb_at (i := 10) (by decide +kernel)), ⟨by decide +kernel, by decide +kernel, by decide +kernel⟩, by decide⟩
theorem ksX10_spread : ax_MV mX10_spread 2 := ⟨kmX10_spread, (tb_at (i := 1057) (by decide +kernel)), (List.mem_append_left _ (List.mem_of_getElem? (i := 40) (by decide +kernel)))⟩
theorem kmX10_showNext : ax_MK mX10_showNext 2 := ⟨(tb_at (i := 1054) (by decide +kernel)), (tb_at (i := 10) (by decide +kernel)), ⟨by decide +kernel, by decide +kernel, by decide +kernel⟩, by decide⟩
theorem ksX10_showNext : ax_MV mX10_showNext 2 := ⟨kmX10_showNext, (tb_at (i := 1052) (by decide +kernel)), (tb_at (i := 1053) (by decide +kernel))⟩
theorem kmX10_write : ax_MK mX10_write 2 := ⟨(tb_at (i := 1062) (by decide +kernel)), (tb_at (i := 10) (by decide +kernel)), ⟨by decide +kernel, by decide +kernel, by decide +kernel⟩, by decide⟩
theorem ksX10_write : ax_MV mX10_write 2 := ⟨kmX10_write, (tb_at (i := 1060) (by decide +kernel)), (tb_at (i := 1061) (by decide +kernel))⟩
theorem kmX10_tear : ax_MK mX10_tear 0 := ⟨(tb_at (i := 1066) (by decide +kernel)), (tb_at (i := 10) (by decide +kernel)), ⟨by decide +kernel, by decide +kernel, by decide +kernel⟩, by decide⟩
theorem ksX10_tear : ax_MV mX10_tear 0 := ⟨kmX10_tear, (tb_at (i := 1064) (by decide +kernel)), (tb_at (i := 1065) (by decide +kernel))⟩
theorem kmX10_judge : ax_MK mX10_judge 0 := ⟨(tb_at (i := 1070) (by decide +kernel)), (tb_at (i := 10) (by decide +kernel)), ⟨by decide +kernel, by decide +kernel, by decide +kernel⟩, by decide⟩
theorem ksX10_judge : ax_MV mX10_judge 0 := ⟨kmX10_judge, (tb_at (i := 1068) (by decide +kernel)), (tb_at (i := 1069) (by decide +kernel))⟩
theorem kmX10_seed : ax_MK mX10_seed 1 := ⟨(tb_at (i := 1074) (by decide +kernel)), (tb_at (i := 10) (by decide +kernel)), ⟨by decide +kernel, by decide +kernel, by decide +kernel⟩, by decide⟩
theorem ksX10_seed : ax_MV mX10_seed 1 := ⟨kmX10_seed, (tb_at (i := 1072) (by decide +kernel)), (tb_at (i := 1073) (by decide +kernel))⟩
theorem kmX10_keep : ax_MK mX10_keep 1 := ⟨(tb_at (i := 1078) (by decide +kernel)), (tb_at (i := 10) (by decide +kernel)), ⟨by decide +kernel, by decide +kernel, by decide +kernel⟩, by decide⟩
theorem ksX10_keep : ax_MV mX10_keep 1 := ⟨kmX10_keep, (tb_at (i := 1076) (by decide +kernel)), (tb_at (i := 1077) (by decide +kernel))⟩
theorem kmX10_goBack : ax_MK mX10_goBack 1 := ⟨(tb_at (i := 1082) (by decide +kernel)), (tb_at (i := 10) (by decide +kernel)), ⟨by decide +kernel, by decide +kernel, by decide +kernel⟩, by decide⟩
theorem ksX10_goBack : ax_MV mX10_goBack 1 := ⟨kmX10_goBack, (tb_at (i := 1080) (by decide +kernel)), (tb_at (i := 1081) (by decide +kernel))⟩
theorem kmJ6_bitCount_0f7a4 : ax_MK mJ6_bitCount_0f7a4 1 := ⟨(tb_at (i := 353) (by decide +kernel)), (tb_at (i := 12) (by decide +kernel)), ⟨by decide +kernel, by decide +kernel, by decide +kernel⟩, by decide⟩
theorem ksJ6_bitCount_0f7a4 : ax_MS mJ6_bitCount_0f7a4 1 := ⟨kmJ6_bitCount_0f7a4, (tb_at (i := 352) (by decide +kernel))⟩
theorem kmJ9_max_7cf53 : ax_MK mJ9_max_7cf53 2 := ⟨(tb_at (i := 670) (by decide +kernel)), (tb_at (i := 13) (by decide +kernel)), ⟨by decide +kernel, by decide +kernel, by decide +kernel⟩, by decide⟩
theorem ksJ9_max_7cf53 : ax_MS mJ9_max_7cf53 2 := ⟨kmJ9_max_7cf53, (tb_at (i := 669) (by decide +kernel))⟩
theorem kmJ9_min_7cf53 : ax_MK mJ9_min_7cf53 2 := ⟨(tb_at (i := 412) (by decide +kernel)), (tb_at (i := 13) (by decide +kernel)), ⟨by decide +kernel, by decide +kernel, by decide +kernel⟩, by decide⟩
theorem ksJ9_min_7cf53 : ax_MS mJ9_min_7cf53 2 := ⟨kmJ9_min_7cf53, (tb_at (i := 411) (by decide +kernel))⟩
theorem kmJ7_fill_53178 : ax_MK mJ7_fill_53178 2 := ⟨(tb_at (i := 60) (by decide +kernel)), (tb_at (i := 4) (by decide +kernel)), ⟨by decide +kernel, by decide +kernel, by decide +kernel⟩, by decide⟩
theorem ksJ7_fill_53178 : ax_MS mJ7_fill_53178 2 := ⟨kmJ7_fill_53178, (tb_at (i := 59) (by decide +kernel))⟩
theorem lkL_9 : ax_LK RL 9 mX9_init := Or.inl (tb_at (i := 18) (by decide +kernel))
theorem lkX9_1 : Cond.methodLink RX9 1 objectInit ∈ lw_tbl := (tb_at (i := 21) (by decide +kernel))
theorem lkX9_9 : ax_LK RX9 9 mX8_init := Or.inl (tb_at (i := 26) (by decide +kernel))
theorem lkX8_3 : Cond.methodLink RX8 3 objectInit ∈ lw_tbl := (tb_at (i := 29) (by decide +kernel))
theorem lkX9_18 : ax_LK RX9 18 mX5_init := Or.inl (tb_at (i := 54) (by decide +kernel))
theorem lkX5_3 : Cond.methodLink RX5 3 objectInit ∈ lw_tbl := (tb_at (i := 57) (by decide +kernel))
theorem lkX5_24 : ax_LK RX5 24 mJ7_fill_53178 := Or.inl (tb_at (i := 58) (by decide +kernel))
theorem lkX9_28 : ax_LK RX9 28 mX4_init := Or.inl (tb_at (i := 87) (by decide +kernel))
theorem lkX4_3 : Cond.methodLink RX4 3 objectInit ∈ lw_tbl := (tb_at (i := 90) (by decide +kernel))
theorem lkX4_17 : ax_LK RX4 17 mX5_init := Or.inl (tb_at (i := 93) (by decide +kernel))
theorem lkX9_35 : ax_LK RX9 35 mX7_init := Or.inl (tb_at (i := 107) (by decide +kernel))
theorem lkX7_3 : Cond.methodLink RX7 3 objectInit ∈ lw_tbl := (tb_at (i := 110) (by decide +kernel))
theorem lkX9_42 : ax_LK RX9 42 mX0_init := Or.inl (tb_at (i := 130) (by decide +kernel))
theorem lkX0_3 : Cond.methodLink RX0 3 objectInit ∈ lw_tbl := (tb_at (i := 133) (by decide +kernel))
theorem lkX9_49 : ax_LK RX9 49 mX1_init := Or.inr ⟨"ParadeRow", (tb_at (i := 147) (by decide +kernel))⟩
theorem lkX1_1 : Cond.methodLink RX1 1 objectInit ∈ lw_tbl := (tb_at (i := 150) (by decide +kernel))
theorem lkX9_56 : ax_LK RX9 56 mX3_init := Or.inl (tb_at (i := 158) (by decide +kernel))
theorem lkX3_1 : Cond.methodLink RX3 1 objectInit ∈ lw_tbl := (tb_at (i := 161) (by decide +kernel))
theorem lkX3_9 : ax_LK RX3 9 mX5_init := Or.inl (tb_at (i := 163) (by decide +kernel))
theorem lkL_13 : ax_LK RL 13 mX9_feed := Or.inl (tb_at (i := 205) (by decide +kernel))
theorem lkX9_64 : ax_LK RX9 64 mX9_isWithin := Or.inl (tb_at (i := 209) (by decide +kernel))
theorem lkX9_68 : ax_LK RX9 68 mX8_hasRoom := Or.inl (tb_at (i := 212) (by decide +kernel))
theorem lkX9_72 : ax_LK RX9 72 mX9_refusal := Or.inl (tb_at (i := 216) (by decide +kernel))
theorem lkX9_76 : ax_LK RX9 76 mX8_append := Or.inl (tb_at (i := 223) (by decide +kernel))
theorem lkX8_22 : ax_LK RX8 22 mX9_isWithin := Or.inr ⟨"ParadeRow", (tb_at (i := 227) (by decide +kernel))⟩
theorem lkL_18 : ax_LK RL 18 mX9_place := Or.inl (tb_at (i := 228) (by decide +kernel))
theorem lkX9_80 : ax_LK RX9 80 mX8_tellInto := Or.inl (tb_at (i := 232) (by decide +kernel))
theorem lkX8_26 : ax_LK RX8 26 mX5_empty := Or.inl (tb_at (i := 236) (by decide +kernel))
theorem lkX8_37 : ax_LK RX8 37 mX8_skipBlanks := Or.inl (tb_at (i := 240) (by decide +kernel))
theorem lkX8_44 : ax_LK RX8 44 mX8_letterHere := Or.inl (tb_at (i := 244) (by decide +kernel))
theorem lkX8_40 : ax_LK RX8 40 mX8_readClause := Or.inl (tb_at (i := 248) (by decide +kernel))
theorem lkX8_48 : ax_LK RX8 48 mX8_readPerson := Or.inl (tb_at (i := 252) (by decide +kernel))
theorem lkX8_54 : ax_LK RX8 54 mX8_blame := Or.inl (tb_at (i := 256) (by decide +kernel))
theorem lkX8_61 : ax_LK RX8 61 mX8_readNumber := Or.inl (tb_at (i := 260) (by decide +kernel))
theorem lkX8_81 : ax_LK RX8 81 mX8_isFigure := Or.inl (tb_at (i := 264) (by decide +kernel))
theorem lkX8_65 : ax_LK RX8 65 mX8_readEndOfClause := Or.inl (tb_at (i := 267) (by decide +kernel))
theorem lkX8_68 : ax_LK RX8 68 mX5_add := Or.inl (tb_at (i := 271) (by decide +kernel))
theorem lkX5_43 : ax_LK RX5 43 mX9_isWithin := Or.inr ⟨"ParadeRow", (tb_at (i := 275) (by decide +kernel))⟩
theorem lkX8_51 : ax_LK RX8 51 mX8_readAcquaintance := Or.inl (tb_at (i := 276) (by decide +kernel))
theorem lkX8_71 : ax_LK RX8 71 mX5_knows := Or.inl (tb_at (i := 280) (by decide +kernel))
theorem lkX5_59 : ax_LK RX5 59 mX5_memoryOf := Or.inl (tb_at (i := 284) (by decide +kernel))
theorem lkX5_55 : ax_LK RX5 55 mX5_isPair := Or.inl (tb_at (i := 288) (by decide +kernel))
theorem lkX5_47 : ax_LK RX5 47 mX5_has := Or.inl (tb_at (i := 292) (by decide +kernel))
theorem lkX8_78 : ax_LK RX8 78 mX5_learn := Or.inl (tb_at (i := 296) (by decide +kernel))
theorem lkX5_63 : ax_LK RX5 63 mX5_marksOf := Or.inl (tb_at (i := 300) (by decide +kernel))
theorem lkX9_84 : ax_LK RX9 84 mX8_empty := Or.inl (tb_at (i := 304) (by decide +kernel))
theorem lkX9_87 : ax_LK RX9 87 mX5_become := Or.inl (tb_at (i := 308) (by decide +kernel))
theorem lkX5_37 : Cond.methodLink RX5 37 arraycopyName ∈ lw_tbl := (tb_at (i := 312) (by decide +kernel))
theorem lkX9_91 : ax_LK RX9 91 mX4_empty := Or.inl (tb_at (i := 315) (by decide +kernel))
theorem lkX9_92 : ax_LK RX9 92 mX7_empty := Or.inl (tb_at (i := 319) (by decide +kernel))
theorem lkX9_93 : ax_LK RX9 93 mX0_empty := Or.inl (tb_at (i := 323) (by decide +kernel))
theorem lkX9_94 : ax_LK RX9 94 mX3_drop := Or.inl (tb_at (i := 327) (by decide +kernel))
theorem lkL_23 : ax_LK RL 23 mX9_fault := Or.inl (tb_at (i := 331) (by decide +kernel))
theorem lkL_27 : ax_LK RL 27 mX9_told := Or.inl (tb_at (i := 335) (by decide +kernel))
theorem lkX9_110 : ax_LK RX9 110 mX5_twoOfOne := Or.inl (tb_at (i := 339) (by decide +kernel))
theorem lkX5_88 : ax_LK RX5 88 mX5_whoAre := Or.inl (tb_at (i := 343) (by decide +kernel))
theorem lkX5_85 : ax_LK RX5 85 mX5_identityOf := Or.inl (tb_at (i := 347) (by decide +kernel))
theorem lkX5_80 : ax_LK RX5 80 mJ6_bitCount_0f7a4 := Or.inl (tb_at (i := 351) (by decide +kernel))
theorem lkX9_114 : ax_LK RX9 114 mX5_nobodies := Or.inl (tb_at (i := 357) (by decide +kernel))
theorem lkX9_117 : ax_LK RX9 117 mX5_countAcquaintances := Or.inl (tb_at (i := 361) (by decide +kernel))
theorem lkX5_77 : ax_LK RX5 77 mX5_knownBy := Or.inl (tb_at (i := 365) (by decide +kernel))
theorem lkX5_74 : ax_LK RX5 74 mX5_knows := Or.inl (tb_at (i := 369) (by decide +kernel))
theorem lkL_31 : ax_LK RL 31 mX9_person := Or.inl (tb_at (i := 370) (by decide +kernel))
theorem lkX9_124 : ax_LK RX9 124 mX5_has := Or.inl (tb_at (i := 374) (by decide +kernel))
theorem lkX9_129 : ax_LK RX9 129 mX5_marksOf := Or.inl (tb_at (i := 375) (by decide +kernel))
theorem lkX9_132 : ax_LK RX9 132 mX5_changesOf := Or.inl (tb_at (i := 376) (by decide +kernel))
theorem lkX9_135 : ax_LK RX9 135 mX5_identityOf := Or.inl (tb_at (i := 380) (by decide +kernel))
theorem lkX9_138 : ax_LK RX9 138 mX5_knownBy := Or.inl (tb_at (i := 381) (by decide +kernel))
theorem lkX9_141 : ax_LK RX9 141 mX5_knowersOf := Or.inl (tb_at (i := 382) (by decide +kernel))
theorem lkL_36 : ax_LK RL 36 mX9_remembers := Or.inl (tb_at (i := 386) (by decide +kernel))
theorem lkX9_144 : ax_LK RX9 144 mX5_isPair := Or.inl (tb_at (i := 390) (by decide +kernel))
theorem lkX9_148 : ax_LK RX9 148 mX5_memoryOf := Or.inl (tb_at (i := 391) (by decide +kernel))
theorem lkL_40 : ax_LK RL 40 mX9_year := Or.inl (tb_at (i := 392) (by decide +kernel))
theorem lkX9_152 : ax_LK RX9 152 mX9_refusalOfYears := Or.inl (tb_at (i := 396) (by decide +kernel))
theorem lkX9_155 : ax_LK RX9 155 mX4_push := Or.inl (tb_at (i := 400) (by decide +kernel))
theorem lkX4_25 : ax_LK RX4 25 mX4_stateAt := Or.inl (tb_at (i := 404) (by decide +kernel))
theorem lkX4_39 : ax_LK RX4 39 mX9_isWithin := Or.inr ⟨"ParadeRow", (tb_at (i := 408) (by decide +kernel))⟩
theorem lkX4_29 : ax_LK RX4 29 mX5_become := Or.inl (tb_at (i := 409) (by decide +kernel))
theorem lkX4_33 : ax_LK RX4 33 mJ9_min_7cf53 := Or.inl (tb_at (i := 410) (by decide +kernel))
theorem lkX9_158 : ax_LK RX9 158 mX5_passYears := Or.inl (tb_at (i := 413) (by decide +kernel))
theorem lkX5_67 : ax_LK RX5 67 mX5_changesOf := Or.inl (tb_at (i := 417) (by decide +kernel))
theorem lkX5_70 : ax_LK RX5 70 mX5_flip := Or.inl (tb_at (i := 418) (by decide +kernel))
theorem lkL_44 : ax_LK RL 44 mX9_meet := Or.inl (tb_at (i := 422) (by decide +kernel))
theorem lkX9_162 : ax_LK RX9 162 mX5_learn := Or.inl (tb_at (i := 426) (by decide +kernel))
theorem lkX9_166 : ax_LK RX9 166 mX2_apart := Or.inl (tb_at (i := 427) (by decide +kernel))
theorem lkX2_9 : ax_LK RX2 9 mJ6_bitCount_0f7a4 := Or.inl (tb_at (i := 430) (by decide +kernel))
theorem lkL_48 : ax_LK RL 48 mX9_forget := Or.inl (tb_at (i := 431) (by decide +kernel))
theorem lkX9_171 : ax_LK RX9 171 mX5_knows := Or.inl (tb_at (i := 435) (by decide +kernel))
theorem lkX9_174 : ax_LK RX9 174 mX5_unlearn := Or.inl (tb_at (i := 436) (by decide +kernel))
theorem lkL_52 : ax_LK RL 52 mX9_parade := Or.inl (tb_at (i := 440) (by decide +kernel))
theorem lkX9_177 : ax_LK RX9 177 mX9_isAsked := Or.inl (tb_at (i := 444) (by decide +kernel))
theorem lkX9_219 : ax_LK RX9 219 mX5_holdsAll := Or.inl (tb_at (i := 448) (by decide +kernel))
theorem lkX5_51 : ax_LK RX5 51 mX5_everybody := Or.inl (tb_at (i := 452) (by decide +kernel))
theorem lkX9_201 : ax_LK RX9 201 mX9_hasBit := Or.inl (tb_at (i := 456) (by decide +kernel))
theorem lkX9_180 : ax_LK RX9 180 mX9_isLongEnough := Or.inl (tb_at (i := 459) (by decide +kernel))
theorem lkX9_291 : ax_LK RX9 291 mJ6_bitCount_0f7a4 := Or.inl (tb_at (i := 462) (by decide +kernel))
theorem lkX9_183 : ax_LK RX9 183 mX2_pick := Or.inl (tb_at (i := 463) (by decide +kernel))
theorem lkX2_30 : ax_LK RX2 30 mX9_hasBit := Or.inr ⟨"ParadeRow", (tb_at (i := 466) (by decide +kernel))⟩
theorem lkX2_34 : ax_LK RX2 34 mX2_apartOf := Or.inl (tb_at (i := 467) (by decide +kernel))
theorem lkX2_15 : ax_LK RX2 15 mX5_marksOf := Or.inl (tb_at (i := 470) (by decide +kernel))
theorem lkX2_20 : ax_LK RX2 20 mX2_apart := Or.inl (tb_at (i := 471) (by decide +kernel))
theorem lkX9_187 : ax_LK RX9 187 mX5_identify := Or.inl (tb_at (i := 472) (by decide +kernel))
theorem lkL_57 : ax_LK RL 57 mX9_mark := Or.inl (tb_at (i := 476) (by decide +kernel))
theorem lkX9_190 : ax_LK RX9 190 mX5_flip := Or.inl (tb_at (i := 480) (by decide +kernel))
theorem lkL_61 : ax_LK RL 61 mX9_drift := Or.inl (tb_at (i := 481) (by decide +kernel))
theorem lkX9_193 : ax_LK RX9 193 mX9_meetByDraws := Or.inl (tb_at (i := 485) (by decide +kernel))
theorem lkX9_296 : ax_LK RX9 296 mX1_drawOf := Or.inl (tb_at (i := 489) (by decide +kernel))
theorem lkL_65 : ax_LK RL 65 mX9_undo := Or.inl (tb_at (i := 496) (by decide +kernel))
theorem lkX9_196 : ax_LK RX9 196 mX4_popInto := Or.inl (tb_at (i := 500) (by decide +kernel))
theorem lkL_69 : ax_LK RL 69 mX9_sure := Or.inl (tb_at (i := 504) (by decide +kernel))
theorem lkX9_204 : ax_LK RX9 204 mX2_sureness := Or.inl (tb_at (i := 508) (by decide +kernel))
theorem lkX2_38 : ax_LK RX2 38 mX2_pick := Or.inl (tb_at (i := 511) (by decide +kernel))
theorem lkX2_41 : ax_LK RX2 41 mX2_lead := Or.inl (tb_at (i := 512) (by decide +kernel))
theorem lkL_73 : ax_LK RL 73 mX9_bestRow := Or.inl (tb_at (i := 515) (by decide +kernel))
theorem lkX9_208 : ax_LK RX9 208 mX9_isRowLength := Or.inl (tb_at (i := 519) (by decide +kernel))
theorem lkX9_211 : ax_LK RX9 211 mX6_surest := Or.inl (tb_at (i := 522) (by decide +kernel))
theorem lkX6_9 : ax_LK RX6 9 mX5_memoryOf := Or.inl (tb_at (i := 525) (by decide +kernel))
theorem lkX6_15 : ax_LK RX6 15 mX5_everybody := Or.inl (tb_at (i := 526) (by decide +kernel))
theorem lkX6_19 : ax_LK RX6 19 mX6_isRowWith := Or.inl (tb_at (i := 527) (by decide +kernel))
theorem lkX6_59 : ax_LK RX6 59 mX6_isRowOf := Or.inl (tb_at (i := 530) (by decide +kernel))
theorem lkX6_46 : ax_LK RX6 46 mJ6_bitCount_0f7a4 := Or.inl (tb_at (i := 533) (by decide +kernel))
theorem lkX6_39 : ax_LK RX6 39 mX9_hasBit := Or.inr ⟨"ParadeRow", (tb_at (i := 534) (by decide +kernel))⟩
theorem lkX6_25 : ax_LK RX6 25 mX2_sureness := Or.inl (tb_at (i := 535) (by decide +kernel))
theorem lkL_77 : ax_LK RL 77 mX9_odds := Or.inl (tb_at (i := 536) (by decide +kernel))
theorem lkX9_216 : ax_LK RX9 216 mX2_oddsOf := Or.inl (tb_at (i := 540) (by decide +kernel))
theorem lkX2_45 : ax_LK RX2 45 mX2_weightIn := Or.inl (tb_at (i := 543) (by decide +kernel))
theorem lkL_82 : ax_LK RL 82 mX9_ask := Or.inl (tb_at (i := 547) (by decide +kernel))
theorem lkX9_222 : ax_LK RX9 222 mX6_surestWitness := Or.inl (tb_at (i := 551) (by decide +kernel))
theorem lkX6_35 : ax_LK RX6 35 mX5_knows := Or.inl (tb_at (i := 554) (by decide +kernel))
theorem lkL_86 : ax_LK RL 86 mX9_ring := Or.inl (tb_at (i := 555) (by decide +kernel))
theorem lkX9_225 : ax_LK RX9 225 mX5_stepsBackTo := Or.inl (tb_at (i := 559) (by decide +kernel))
theorem lkL_90 : ax_LK RL 90 mX9_rings := Or.inl (tb_at (i := 563) (by decide +kernel))
theorem lkX9_228 : ax_LK RX9 228 mX5_countInRings := Or.inl (tb_at (i := 567) (by decide +kernel))
theorem lkX5_91 : ax_LK RX5 91 mX5_stepsBackTo := Or.inl (tb_at (i := 571) (by decide +kernel))
theorem lkX9_231 : ax_LK RX9 231 mX5_countAstray := Or.inl (tb_at (i := 572) (by decide +kernel))
theorem lkX9_234 : ax_LK RX9 234 mX5_countAstrayAndKnown := Or.inl (tb_at (i := 576) (by decide +kernel))
theorem lkX5_94 : ax_LK RX5 94 mX5_knowersOf := Or.inl (tb_at (i := 580) (by decide +kernel))
theorem lkL_94 : ax_LK RL 94 mX9_mask := Or.inl (tb_at (i := 581) (by decide +kernel))
theorem lkX9_237 : ax_LK RX9 237 mX6_fewestMarks := Or.inl (tb_at (i := 585) (by decide +kernel))
theorem lkX6_42 : ax_LK RX6 42 mX2_pick := Or.inl (tb_at (i := 588) (by decide +kernel))
theorem lkX6_52 : ax_LK RX6 52 mX5_marksOf := Or.inl (tb_at (i := 589) (by decide +kernel))
theorem lkX6_55 : ax_LK RX6 55 mX2_lead := Or.inl (tb_at (i := 590) (by decide +kernel))
theorem lkL_98 : ax_LK RL 98 mX9_spoil := Or.inl (tb_at (i := 591) (by decide +kernel))
theorem lkL_102 : ax_LK RL 102 mX9_impostor := Or.inl (tb_at (i := 595) (by decide +kernel))
theorem lkX9_241 : ax_LK RX9 241 mX6_countPicking := Or.inl (tb_at (i := 599) (by decide +kernel))
theorem lkX9_244 : ax_LK RX9 244 mX6_leastPicking := Or.inl (tb_at (i := 602) (by decide +kernel))
theorem lkL_107 : ax_LK RL 107 mX9_lost := Or.inl (tb_at (i := 605) (by decide +kernel))
theorem lkX9_247 : ax_LK RX9 247 mX5_fadedPair := Or.inl (tb_at (i := 609) (by decide +kernel))
theorem lkX5_102 : ax_LK RX5 102 mX5_isFaded := Or.inl (tb_at (i := 613) (by decide +kernel))
theorem lkX5_97 : ax_LK RX5 97 mX2_apart := Or.inl (tb_at (i := 617) (by decide +kernel))
theorem lkL_111 : ax_LK RL 111 mX9_alike := Or.inl (tb_at (i := 618) (by decide +kernel))
theorem lkX9_250 : ax_LK RX9 250 mX5_firstTwins := Or.inl (tb_at (i := 622) (by decide +kernel))
theorem lkL_115 : ax_LK RL 115 mX9_see := Or.inl (tb_at (i := 626) (by decide +kernel))
theorem lkX9_253 : ax_LK RX9 253 mX7_hasRoom := Or.inl (tb_at (i := 630) (by decide +kernel))
theorem lkX9_254 : ax_LK RX9 254 mX7_add := Or.inl (tb_at (i := 634) (by decide +kernel))
theorem lkX7_28 : ax_LK RX7 28 mX9_isWithin := Or.inr ⟨"ParadeRow", (tb_at (i := 638) (by decide +kernel))⟩
theorem lkL_119 : ax_LK RL 119 mX9_honest := Or.inl (tb_at (i := 639) (by decide +kernel))
theorem lkX9_258 : ax_LK RX9 258 mX7_countOtherwise := Or.inl (tb_at (i := 643) (by decide +kernel))
theorem lkX7_32 : ax_LK RX7 32 mX7_pickNow := Or.inl (tb_at (i := 647) (by decide +kernel))
theorem lkX7_36 : ax_LK RX7 36 mX5_knows := Or.inl (tb_at (i := 650) (by decide +kernel))
theorem lkX7_42 : ax_LK RX7 42 mX5_memoryOf := Or.inl (tb_at (i := 651) (by decide +kernel))
theorem lkX7_46 : ax_LK RX7 46 mX2_pick := Or.inl (tb_at (i := 652) (by decide +kernel))
theorem lkL_123 : ax_LK RL 123 mX9_nods := Or.inl (tb_at (i := 653) (by decide +kernel))
theorem lkL_127 : ax_LK RL 127 mX9_showNext := Or.inl (tb_at (i := 657) (by decide +kernel))
theorem lkX9_262 : ax_LK RX9 262 mX6_widest := Or.inl (tb_at (i := 661) (by decide +kernel))
theorem lkX6_63 : ax_LK RX6 63 mX2_spread := Or.inl (tb_at (i := 664) (by decide +kernel))
theorem lkX2_50 : ax_LK RX2 50 mJ9_min_7cf53 := Or.inl (tb_at (i := 667) (by decide +kernel))
theorem lkX2_55 : ax_LK RX2 55 mJ9_max_7cf53 := Or.inl (tb_at (i := 668) (by decide +kernel))
theorem lkL_131 : ax_LK RL 131 mX9_write := Or.inl (tb_at (i := 671) (by decide +kernel))
theorem lkX9_265 : ax_LK RX9 265 mX0_hasRoom := Or.inl (tb_at (i := 675) (by decide +kernel))
theorem lkX9_266 : ax_LK RX9 266 mX0_add := Or.inl (tb_at (i := 679) (by decide +kernel))
theorem lkX0_22 : ax_LK RX0 22 mX9_isWithin := Or.inr ⟨"ParadeRow", (tb_at (i := 683) (by decide +kernel))⟩
theorem lkL_135 : ax_LK RL 135 mX9_tear := Or.inl (tb_at (i := 684) (by decide +kernel))
theorem lkL_139 : ax_LK RL 139 mX9_judge := Or.inl (tb_at (i := 688) (by decide +kernel))
theorem lkX9_268 : ax_LK RX9 268 mX0_firstWrong := Or.inl (tb_at (i := 692) (by decide +kernel))
theorem lkX0_26 : ax_LK RX0 26 mX5_identityOf := Or.inl (tb_at (i := 696) (by decide +kernel))
theorem lkL_143 : ax_LK RL 143 mX9_seed := Or.inl (tb_at (i := 697) (by decide +kernel))
theorem lkL_147 : ax_LK RL 147 mX9_keep := Or.inl (tb_at (i := 701) (by decide +kernel))
theorem lkX9_274 : ax_LK RX9 274 mX9_imageOf := Or.inl (tb_at (i := 705) (by decide +kernel))
theorem lkX9_278 : ax_LK RX9 278 mX3_take := Or.inl (tb_at (i := 709) (by decide +kernel))
theorem lkX3_16 : ax_LK RX3 16 mX5_become := Or.inl (tb_at (i := 713) (by decide +kernel))
theorem lkL_151 : ax_LK RL 151 mX9_goBack := Or.inl (tb_at (i := 714) (by decide +kernel))
theorem lkL_12 : ax_LK RL 12 mX10_init := Or.inl (tb_at (i := 720) (by decide +kernel))
theorem lkX10_1 : Cond.methodLink RX10 1 objectInit ∈ lw_tbl := (tb_at (i := 723) (by decide +kernel))
theorem lkL_17 : ax_LK RL 17 mX10_feed := Or.inl (tb_at (i := 807) (by decide +kernel))
theorem lkX10_66 : ax_LK RX10 66 mX10_in := Or.inl (tb_at (i := 812) (by decide +kernel))
theorem lkL_22 : ax_LK RL 22 mX10_place := Or.inl (tb_at (i := 817) (by decide +kernel))
theorem lkX10_84 : ax_LK RX10 84 mX10_here := Or.inl (tb_at (i := 821) (by decide +kernel))
theorem lkX10_118 : ax_LK RX10 118 mX10_takeClause := Or.inl (tb_at (i := 825) (by decide +kernel))
theorem lkX10_92 : ax_LK RX10 92 mX10_fails := Or.inl (tb_at (i := 829) (by decide +kernel))
theorem lkX10_112 : ax_LK RX10 112 mX10_takePerson := Or.inl (tb_at (i := 833) (by decide +kernel))
theorem lkX10_108 : ax_LK RX10 108 mX10_into := Or.inl (tb_at (i := 837) (by decide +kernel))
theorem lkX10_102 : ax_LK RX10 102 mX10_takeNumber := Or.inl (tb_at (i := 841) (by decide +kernel))
theorem lkX10_115 : ax_LK RX10 115 mX10_takeKnows := Or.inl (tb_at (i := 847) (by decide +kernel))
theorem lkX10_121 : ax_LK RX10 121 mX10_takeRead := Or.inl (tb_at (i := 851) (by decide +kernel))
theorem lkL_26 : ax_LK RL 26 mX10_fault := Or.inl (tb_at (i := 855) (by decide +kernel))
theorem lkL_30 : ax_LK RL 30 mX10_told := Or.inl (tb_at (i := 859) (by decide +kernel))
theorem lkX10_143 : ax_LK RX10 143 mX10_twoOfOne := Or.inl (tb_at (i := 863) (by decide +kernel))
theorem lkX10_146 : ax_LK RX10 146 mX10_nobody := Or.inl (tb_at (i := 867) (by decide +kernel))
theorem lkX10_149 : ax_LK RX10 149 mX10_pairs := Or.inl (tb_at (i := 871) (by decide +kernel))
theorem lkX10_136 : ax_LK RX10 136 mX10_knownBy := Or.inl (tb_at (i := 875) (by decide +kernel))
theorem lkX10_133 : ax_LK RX10 133 mX10_remembered := Or.inl (tb_at (i := 879) (by decide +kernel))
theorem lkX10_140 : ax_LK RX10 140 mX10_bits := Or.inl (tb_at (i := 883) (by decide +kernel))
theorem lkL_35 : ax_LK RL 35 mX10_person := Or.inl (tb_at (i := 886) (by decide +kernel))
theorem lkX10_70 : ax_LK RX10 70 mX10_isPerson := Or.inl (tb_at (i := 890) (by decide +kernel))
theorem lkX10_153 : ax_LK RX10 153 mX10_whoKnow := Or.inl (tb_at (i := 895) (by decide +kernel))
theorem lkL_39 : ax_LK RL 39 mX10_remembers := Or.inl (tb_at (i := 899) (by decide +kernel))
theorem lkX10_156 : ax_LK RX10 156 mX10_areTwo := Or.inl (tb_at (i := 903) (by decide +kernel))
theorem lkL_43 : ax_LK RL 43 mX10_year := Or.inl (tb_at (i := 907) (by decide +kernel))
theorem lkX10_172 : ax_LK RX10 172 mX10_yearsRefused := Or.inl (tb_at (i := 911) (by decide +kernel))
theorem lkX10_175 : ax_LK RX10 175 mX10_remember := Or.inl (tb_at (i := 917) (by decide +kernel))
theorem lkX10_178 : ax_LK RX10 178 mX10_pass := Or.inl (tb_at (i := 921) (by decide +kernel))
theorem lkL_47 : ax_LK RL 47 mX10_meet := Or.inl (tb_at (i := 925) (by decide +kernel))
theorem lkX10_163 : ax_LK RX10 163 mX10_apart := Or.inl (tb_at (i := 929) (by decide +kernel))
theorem lkL_51 : ax_LK RL 51 mX10_forget := Or.inl (tb_at (i := 932) (by decide +kernel))
theorem lkL_56 : ax_LK RL 56 mX10_parade := Or.inl (tb_at (i := 936) (by decide +kernel))
theorem lkX10_184 : ax_LK RX10 184 mX10_rowRefused := Or.inl (tb_at (i := 940) (by decide +kernel))
theorem lkX10_181 : ax_LK RX10 181 mX10_isRow := Or.inl (tb_at (i := 944) (by decide +kernel))
theorem lkX10_160 : ax_LK RX10 160 mX10_has := Or.inl (tb_at (i := 948) (by decide +kernel))
theorem lkX10_188 : ax_LK RX10 188 mX10_unknownTo := Or.inl (tb_at (i := 951) (by decide +kernel))
theorem lkX10_166 : ax_LK RX10 166 mX10_pickBy := Or.inl (tb_at (i := 955) (by decide +kernel))
theorem lkL_60 : ax_LK RL 60 mX10_mark := Or.inl (tb_at (i := 959) (by decide +kernel))
theorem lkL_64 : ax_LK RL 64 mX10_drift := Or.inl (tb_at (i := 964) (by decide +kernel))
theorem lkX10_203 : ax_LK RX10 203 mX10_draw := Or.inl (tb_at (i := 968) (by decide +kernel))
theorem lkL_68 : ax_LK RL 68 mX10_undo := Or.inl (tb_at (i := 976) (by decide +kernel))
theorem lkL_72 : ax_LK RL 72 mX10_sure := Or.inl (tb_at (i := 980) (by decide +kernel))
theorem lkX10_206 : ax_LK RX10 206 mX10_sureBy := Or.inl (tb_at (i := 984) (by decide +kernel))
theorem lkL_76 : ax_LK RL 76 mX10_bestRow := Or.inl (tb_at (i := 988) (by decide +kernel))
theorem lkL_81 : ax_LK RL 81 mX10_odds := Or.inl (tb_at (i := 994) (by decide +kernel))
theorem lkL_85 : ax_LK RL 85 mX10_ask := Or.inl (tb_at (i := 999) (by decide +kernel))
theorem lkL_89 : ax_LK RL 89 mX10_ring := Or.inl (tb_at (i := 1003) (by decide +kernel))
theorem lkX10_214 : ax_LK RX10 214 mX10_ringOf := Or.inl (tb_at (i := 1007) (by decide +kernel))
theorem lkL_93 : ax_LK RL 93 mX10_rings := Or.inl (tb_at (i := 1011) (by decide +kernel))
theorem lkL_97 : ax_LK RL 97 mX10_mask := Or.inl (tb_at (i := 1015) (by decide +kernel))
theorem lkL_101 : ax_LK RL 101 mX10_spoil := Or.inl (tb_at (i := 1019) (by decide +kernel))
theorem lkL_106 : ax_LK RL 106 mX10_impostor := Or.inl (tb_at (i := 1023) (by decide +kernel))
theorem lkL_110 : ax_LK RL 110 mX10_lost := Or.inl (tb_at (i := 1027) (by decide +kernel))
theorem lkL_114 : ax_LK RL 114 mX10_alike := Or.inl (tb_at (i := 1031) (by decide +kernel))
theorem lkL_118 : ax_LK RL 118 mX10_see := Or.inl (tb_at (i := 1035) (by decide +kernel))
theorem lkL_122 : ax_LK RL 122 mX10_honest := Or.inl (tb_at (i := 1039) (by decide +kernel))
theorem lkX10_217 : ax_LK RX10 217 mX10_nodsOf := Or.inl (tb_at (i := 1043) (by decide +kernel))
theorem lkL_126 : ax_LK RL 126 mX10_nods := Or.inl (tb_at (i := 1047) (by decide +kernel))
theorem lkL_130 : ax_LK RL 130 mX10_showNext := Or.inl (tb_at (i := 1051) (by decide +kernel))
theorem lkX10_220 : ax_LK RX10 220 mX10_spread := Or.inl (tb_at (i := 1055) (by decide +kernel))
theorem lkL_134 : ax_LK RL 134 mX10_write := Or.inl (tb_at (i := 1059) (by decide +kernel))
theorem lkL_138 : ax_LK RL 138 mX10_tear := Or.inl (tb_at (i := 1063) (by decide +kernel))
theorem lkL_142 : ax_LK RL 142 mX10_judge := Or.inl (tb_at (i := 1067) (by decide +kernel))
theorem lkL_146 : ax_LK RL 146 mX10_seed := Or.inl (tb_at (i := 1071) (by decide +kernel))
theorem lkL_150 : ax_LK RL 150 mX10_keep := Or.inl (tb_at (i := 1075) (by decide +kernel))
theorem lkL_154 : ax_LK RL 154 mX10_goBack := Or.inl (tb_at (i := 1079) (by decide +kernel))
theorem flX8_9 : ax_F RX8 9 6 0 (.array .int) true := ⟨RX8, TX8, 6, tyX8, rfl, inX8, tyX8_ok, nmX8, by decide, rfl, rfl, rfl, Or.inl (tb_at (i := 30) (by decide +kernel))⟩
theorem ffX8_9 : ∃ (C : String) (T : u_T) (N : Nat), vwCl[6]? = some (C, T, N) ∧ C = RX8 ∧ Cond.fieldLink RX8 9 (T 0).1 (T 0).2.1 (T 0).2.2.1 ∈ lw_tbl := ⟨_, _, _, rfl, rfl, (tb_at (i := 30) (by decide +kernel))⟩
theorem flX8_19 : ax_F RX8 19 6 1 (.int) false := ⟨RX8, TX8, 6, tyX8, rfl, inX8, tyX8_ok, nmX8, by decide, rfl, rfl, rfl, Or.inl (tb_at (i := 31) (by decide +kernel))⟩
theorem flX9_104 : ax_F RX9 104 6 1 (.int) false := ⟨RX8, TX8, 6, tyX8, rfl, inX8, tyX8_ok, nmX8, by decide, rfl, rfl, rfl, Or.inr ⟨"ParadeRow", (tb_at (i := 32) (by decide +kernel))⟩⟩
theorem flX8_15 : ax_F RX8 15 6 2 (.int) false := ⟨RX8, TX8, 6, tyX8, rfl, inX8, tyX8_ok, nmX8, by decide, rfl, rfl, rfl, Or.inl (tb_at (i := 33) (by decide +kernel))⟩
theorem flX9_101 : ax_F RX9 101 6 2 (.int) false := ⟨RX8, TX8, 6, tyX8, rfl, inX8, tyX8_ok, nmX8, by decide, rfl, rfl, rfl, Or.inr ⟨"ParadeRow", (tb_at (i := 34) (by decide +kernel))⟩⟩
theorem flX8_34 : ax_F RX8 34 6 3 (.int) false := ⟨RX8, TX8, 6, tyX8, rfl, inX8, tyX8_ok, nmX8, by decide, rfl, rfl, rfl, Or.inl (tb_at (i := 35) (by decide +kernel))⟩
theorem flX8_31 : ax_F RX8 31 6 4 (.int) false := ⟨RX8, TX8, 6, tyX8, rfl, inX8, tyX8_ok, nmX8, by decide, rfl, rfl, rfl, Or.inl (tb_at (i := 36) (by decide +kernel))⟩
theorem flX8_75 : ax_F RX8 75 6 5 (.int) false := ⟨RX8, TX8, 6, tyX8, rfl, inX8, tyX8_ok, nmX8, by decide, rfl, rfl, rfl, Or.inl (tb_at (i := 37) (by decide +kernel))⟩
theorem flX5_9 : ax_F RX5 9 4 0 (.array .int) true := ⟨RX5, TX5, 6, tyX5, rfl, inX5, tyX5_ok, nmX5, by decide, rfl, rfl, rfl, Or.inl (tb_at (i := 61) (by decide +kernel))⟩
theorem ffX5_9 : ∃ (C : String) (T : u_T) (N : Nat), vwCl[4]? = some (C, T, N) ∧ C = RX5 ∧ Cond.fieldLink RX5 9 (T 0).1 (T 0).2.1 (T 0).2.2.1 ∈ lw_tbl := ⟨_, _, _, rfl, rfl, (tb_at (i := 61) (by decide +kernel))⟩
theorem flX5_15 : ax_F RX5 15 4 1 (.array .int) true := ⟨RX5, TX5, 6, tyX5, rfl, inX5, tyX5_ok, nmX5, by decide, rfl, rfl, rfl, Or.inl (tb_at (i := 62) (by decide +kernel))⟩
theorem ffX5_15 : ∃ (C : String) (T : u_T) (N : Nat), vwCl[4]? = some (C, T, N) ∧ C = RX5 ∧ Cond.fieldLink RX5 15 (T 1).1 (T 1).2.1 (T 1).2.2.1 ∈ lw_tbl := ⟨_, _, _, rfl, rfl, (tb_at (i := 62) (by decide +kernel))⟩
theorem flX5_18 : ax_F RX5 18 4 2 (.array .int) true := ⟨RX5, TX5, 6, tyX5, rfl, inX5, tyX5_ok, nmX5, by decide, rfl, rfl, rfl, Or.inl (tb_at (i := 63) (by decide +kernel))⟩
theorem ffX5_18 : ∃ (C : String) (T : u_T) (N : Nat), vwCl[4]? = some (C, T, N) ∧ C = RX5 ∧ Cond.fieldLink RX5 18 (T 2).1 (T 2).2.1 (T 2).2.2.1 ∈ lw_tbl := ⟨_, _, _, rfl, rfl, (tb_at (i := 63) (by decide +kernel))⟩
theorem flX5_21 : ax_F RX5 21 4 3 (.array .int) true := ⟨RX5, TX5, 6, tyX5, rfl, inX5, tyX5_ok, nmX5, by decide, rfl, rfl, rfl, Or.inl (tb_at (i := 64) (by decide +kernel))⟩
theorem ffX5_21 : ∃ (C : String) (T : u_T) (N : Nat), vwCl[4]? = some (C, T, N) ∧ C = RX5 ∧ Cond.fieldLink RX5 21 (T 3).1 (T 3).2.1 (T 3).2.2.1 ∈ lw_tbl := ⟨_, _, _, rfl, rfl, (tb_at (i := 64) (by decide +kernel))⟩
theorem flX5_30 : ax_F RX5 30 4 4 (.int) false := ⟨RX5, TX5, 6, tyX5, rfl, inX5, tyX5_ok, nmX5, by decide, rfl, rfl, rfl, Or.inl (tb_at (i := 65) (by decide +kernel))⟩
theorem flX6_31 : ax_F RX6 31 4 4 (.int) false := ⟨RX5, TX5, 6, tyX5, rfl, inX5, tyX5_ok, nmX5, by decide, rfl, rfl, rfl, Or.inr ⟨"ParadeRow", (tb_at (i := 66) (by decide +kernel))⟩⟩
theorem flX9_97 : ax_F RX9 97 4 4 (.int) false := ⟨RX5, TX5, 6, tyX5, rfl, inX5, tyX5_ok, nmX5, by decide, rfl, rfl, rfl, Or.inr ⟨"ParadeRow", (tb_at (i := 67) (by decide +kernel))⟩⟩
theorem flX2_26 : ax_F RX2 26 4 4 (.int) false := ⟨RX5, TX5, 6, tyX5, rfl, inX5, tyX5_ok, nmX5, by decide, rfl, rfl, rfl, Or.inr ⟨"ParadeRow", (tb_at (i := 68) (by decide +kernel))⟩⟩
theorem flX8_58 : ax_F RX8 58 4 4 (.int) false := ⟨RX5, TX5, 6, tyX5, rfl, inX5, tyX5_ok, nmX5, by decide, rfl, rfl, rfl, Or.inr ⟨"ParadeRow", (tb_at (i := 69) (by decide +kernel))⟩⟩
theorem flX5_34 : ax_F RX5 34 4 5 (.int) false := ⟨RX5, TX5, 6, tyX5, rfl, inX5, tyX5_ok, nmX5, by decide, rfl, rfl, rfl, Or.inl (tb_at (i := 70) (by decide +kernel))⟩
theorem flX9_107 : ax_F RX9 107 4 5 (.int) false := ⟨RX5, TX5, 6, tyX5, rfl, inX5, tyX5_ok, nmX5, by decide, rfl, rfl, rfl, Or.inr ⟨"ParadeRow", (tb_at (i := 71) (by decide +kernel))⟩⟩
theorem flX4_11 : ax_F RX4 11 3 0 (.array (.object "ParadeRow$People")) true := ⟨RX4, TX4, 3, tyX4, rfl, inX4, tyX4_ok, nmX4, by decide, rfl, rfl, rfl, Or.inl (tb_at (i := 94) (by decide +kernel))⟩
theorem ffX4_11 : ∃ (C : String) (T : u_T) (N : Nat), vwCl[3]? = some (C, T, N) ∧ C = RX4 ∧ Cond.fieldLink RX4 11 (T 0).1 (T 0).2.1 (T 0).2.2.1 ∈ lw_tbl := ⟨_, _, _, rfl, rfl, (tb_at (i := 94) (by decide +kernel))⟩
theorem flX4_22 : ax_F RX4 22 3 1 (.int) false := ⟨RX4, TX4, 3, tyX4, rfl, inX4, tyX4_ok, nmX4, by decide, rfl, rfl, rfl, Or.inl (tb_at (i := 95) (by decide +kernel))⟩
theorem flX4_18 : ax_F RX4 18 3 2 (.int) false := ⟨RX4, TX4, 3, tyX4, rfl, inX4, tyX4_ok, nmX4, by decide, rfl, rfl, rfl, Or.inl (tb_at (i := 96) (by decide +kernel))⟩
theorem flX9_122 : ax_F RX9 122 3 2 (.int) false := ⟨RX4, TX4, 3, tyX4, rfl, inX4, tyX4_ok, nmX4, by decide, rfl, rfl, rfl, Or.inr ⟨"ParadeRow", (tb_at (i := 97) (by decide +kernel))⟩⟩
theorem flX7_9 : ax_F RX7 9 5 0 (.array .int) true := ⟨RX7, TX7, 5, tyX7, rfl, inX7, tyX7_ok, nmX7, by decide, rfl, rfl, rfl, Or.inl (tb_at (i := 111) (by decide +kernel))⟩
theorem ffX7_9 : ∃ (C : String) (T : u_T) (N : Nat), vwCl[5]? = some (C, T, N) ∧ C = RX7 ∧ Cond.fieldLink RX7 9 (T 0).1 (T 0).2.1 (T 0).2.2.1 ∈ lw_tbl := ⟨_, _, _, rfl, rfl, (tb_at (i := 111) (by decide +kernel))⟩
theorem flX7_15 : ax_F RX7 15 5 1 (.array .int) true := ⟨RX7, TX7, 5, tyX7, rfl, inX7, tyX7_ok, nmX7, by decide, rfl, rfl, rfl, Or.inl (tb_at (i := 112) (by decide +kernel))⟩
theorem ffX7_15 : ∃ (C : String) (T : u_T) (N : Nat), vwCl[5]? = some (C, T, N) ∧ C = RX7 ∧ Cond.fieldLink RX7 15 (T 1).1 (T 1).2.1 (T 1).2.2.1 ∈ lw_tbl := ⟨_, _, _, rfl, rfl, (tb_at (i := 112) (by decide +kernel))⟩
theorem flX7_18 : ax_F RX7 18 5 2 (.array .int) true := ⟨RX7, TX7, 5, tyX7, rfl, inX7, tyX7_ok, nmX7, by decide, rfl, rfl, rfl, Or.inl (tb_at (i := 113) (by decide +kernel))⟩
theorem ffX7_18 : ∃ (C : String) (T : u_T) (N : Nat), vwCl[5]? = some (C, T, N) ∧ C = RX7 ∧ Cond.fieldLink RX7 18 (T 2).1 (T 2).2.1 (T 2).2.2.1 ∈ lw_tbl := ⟨_, _, _, rfl, rfl, (tb_at (i := 113) (by decide +kernel))⟩
theorem flX7_21 : ax_F RX7 21 5 3 (.array .int) true := ⟨RX7, TX7, 5, tyX7, rfl, inX7, tyX7_ok, nmX7, by decide, rfl, rfl, rfl, Or.inl (tb_at (i := 114) (by decide +kernel))⟩
theorem ffX7_21 : ∃ (C : String) (T : u_T) (N : Nat), vwCl[5]? = some (C, T, N) ∧ C = RX7 ∧ Cond.fieldLink RX7 21 (T 3).1 (T 3).2.1 (T 3).2.2.1 ∈ lw_tbl := ⟨_, _, _, rfl, rfl, (tb_at (i := 114) (by decide +kernel))⟩
theorem flX7_24 : ax_F RX7 24 5 4 (.int) false := ⟨RX7, TX7, 5, tyX7, rfl, inX7, tyX7_ok, nmX7, by decide, rfl, rfl, rfl, Or.inl (tb_at (i := 115) (by decide +kernel))⟩
theorem flX9_120 : ax_F RX9 120 5 4 (.int) false := ⟨RX7, TX7, 5, tyX7, rfl, inX7, tyX7_ok, nmX7, by decide, rfl, rfl, rfl, Or.inr ⟨"ParadeRow", (tb_at (i := 116) (by decide +kernel))⟩⟩
theorem flX0_9 : ax_F RX0 9 0 0 (.array .int) true := ⟨RX0, TX0, 3, tyX0, rfl, inX0, tyX0_ok, nmX0, by decide, rfl, rfl, rfl, Or.inl (tb_at (i := 134) (by decide +kernel))⟩
theorem ffX0_9 : ∃ (C : String) (T : u_T) (N : Nat), vwCl[0]? = some (C, T, N) ∧ C = RX0 ∧ Cond.fieldLink RX0 9 (T 0).1 (T 0).2.1 (T 0).2.2.1 ∈ lw_tbl := ⟨_, _, _, rfl, rfl, (tb_at (i := 134) (by decide +kernel))⟩
theorem flX0_15 : ax_F RX0 15 0 1 (.array .int) true := ⟨RX0, TX0, 3, tyX0, rfl, inX0, tyX0_ok, nmX0, by decide, rfl, rfl, rfl, Or.inl (tb_at (i := 135) (by decide +kernel))⟩
theorem ffX0_15 : ∃ (C : String) (T : u_T) (N : Nat), vwCl[0]? = some (C, T, N) ∧ C = RX0 ∧ Cond.fieldLink RX0 15 (T 1).1 (T 1).2.1 (T 1).2.2.1 ∈ lw_tbl := ⟨_, _, _, rfl, rfl, (tb_at (i := 135) (by decide +kernel))⟩
theorem flX0_18 : ax_F RX0 18 0 2 (.int) false := ⟨RX0, TX0, 3, tyX0, rfl, inX0, tyX0_ok, nmX0, by decide, rfl, rfl, rfl, Or.inl (tb_at (i := 136) (by decide +kernel))⟩
theorem flX9_121 : ax_F RX9 121 0 2 (.int) false := ⟨RX0, TX0, 3, tyX0, rfl, inX0, tyX0_ok, nmX0, by decide, rfl, rfl, rfl, Or.inr ⟨"ParadeRow", (tb_at (i := 137) (by decide +kernel))⟩⟩
theorem flX1_7 : ax_F RX1 7 1 0 (.int) false := ⟨RX1, TX1, 1, tyX1, rfl, inX1, tyX1_ok, nmX1, by decide, rfl, rfl, rfl, Or.inl (tb_at (i := 151) (by decide +kernel))⟩
theorem flX9_271 : ax_F RX9 271 1 0 (.int) false := ⟨RX1, TX1, 1, tyX1, rfl, inX1, tyX1_ok, nmX1, by decide, rfl, rfl, rfl, Or.inr ⟨"ParadeRow", (tb_at (i := 152) (by decide +kernel))⟩⟩
theorem flX3_10 : ax_F RX3 10 2 0 (.object "ParadeRow$People") true := ⟨RX3, TX3, 3, tyX3, rfl, inX3, tyX3_ok, nmX3, by decide, rfl, rfl, rfl, Or.inl (tb_at (i := 164) (by decide +kernel))⟩
theorem ffX3_10 : ∃ (C : String) (T : u_T) (N : Nat), vwCl[2]? = some (C, T, N) ∧ C = RX3 ∧ Cond.fieldLink RX3 10 (T 0).1 (T 0).2.1 (T 0).2.2.1 ∈ lw_tbl := ⟨_, _, _, rfl, rfl, (tb_at (i := 164) (by decide +kernel))⟩
theorem flX9_286 : ax_F RX9 286 2 0 (.object "ParadeRow$People") true := ⟨RX3, TX3, 3, tyX3, rfl, inX3, tyX3_ok, nmX3, by decide, rfl, rfl, rfl, Or.inr ⟨"ParadeRow", (tb_at (i := 165) (by decide +kernel))⟩⟩
theorem flX3_20 : ax_F RX3 20 2 1 (.int) false := ⟨RX3, TX3, 3, tyX3, rfl, inX3, tyX3_ok, nmX3, by decide, rfl, rfl, rfl, Or.inl (tb_at (i := 166) (by decide +kernel))⟩
theorem flX9_289 : ax_F RX9 289 2 1 (.int) false := ⟨RX3, TX3, 3, tyX3, rfl, inX3, tyX3_ok, nmX3, by decide, rfl, rfl, rfl, Or.inr ⟨"ParadeRow", (tb_at (i := 167) (by decide +kernel))⟩⟩
theorem flX3_24 : ax_F RX3 24 2 2 (.boolean) false := ⟨RX3, TX3, 3, tyX3, rfl, inX3, tyX3_ok, nmX3, by decide, rfl, rfl, rfl, Or.inl (tb_at (i := 168) (by decide +kernel))⟩
theorem flX9_282 : ax_F RX9 282 2 2 (.boolean) false := ⟨RX3, TX3, 3, tyX3, rfl, inX3, tyX3_ok, nmX3, by decide, rfl, rfl, rfl, Or.inr ⟨"ParadeRow", (tb_at (i := 169) (by decide +kernel))⟩⟩
theorem flX9_10 : ax_F RX9 10 7 0 (.object "ParadeRow$Text") true := ⟨RX9, TX9, 9, tyX9, rfl, inX9, tyX9_ok, nmX9, by decide, rfl, rfl, rfl, Or.inl (tb_at (i := 177) (by decide +kernel))⟩
theorem ffX9_10 : ∃ (C : String) (T : u_T) (N : Nat), vwCl[7]? = some (C, T, N) ∧ C = RX9 ∧ Cond.fieldLink RX9 10 (T 0).1 (T 0).2.1 (T 0).2.2.1 ∈ lw_tbl := ⟨_, _, _, rfl, rfl, (tb_at (i := 177) (by decide +kernel))⟩
theorem flX9_19 : ax_F RX9 19 7 1 (.object "ParadeRow$People") true := ⟨RX9, TX9, 9, tyX9, rfl, inX9, tyX9_ok, nmX9, by decide, rfl, rfl, rfl, Or.inl (tb_at (i := 178) (by decide +kernel))⟩
theorem ffX9_19 : ∃ (C : String) (T : u_T) (N : Nat), vwCl[7]? = some (C, T, N) ∧ C = RX9 ∧ Cond.fieldLink RX9 19 (T 1).1 (T 1).2.1 (T 1).2.2.1 ∈ lw_tbl := ⟨_, _, _, rfl, rfl, (tb_at (i := 178) (by decide +kernel))⟩
theorem flX9_23 : ax_F RX9 23 7 2 (.object "ParadeRow$People") true := ⟨RX9, TX9, 9, tyX9, rfl, inX9, tyX9_ok, nmX9, by decide, rfl, rfl, rfl, Or.inl (tb_at (i := 179) (by decide +kernel))⟩
theorem ffX9_23 : ∃ (C : String) (T : u_T) (N : Nat), vwCl[7]? = some (C, T, N) ∧ C = RX9 ∧ Cond.fieldLink RX9 23 (T 2).1 (T 2).2.1 (T 2).2.2.1 ∈ lw_tbl := ⟨_, _, _, rfl, rfl, (tb_at (i := 179) (by decide +kernel))⟩
theorem flX9_29 : ax_F RX9 29 7 3 (.object "ParadeRow$Past") true := ⟨RX9, TX9, 9, tyX9, rfl, inX9, tyX9_ok, nmX9, by decide, rfl, rfl, rfl, Or.inl (tb_at (i := 180) (by decide +kernel))⟩
theorem ffX9_29 : ∃ (C : String) (T : u_T) (N : Nat), vwCl[7]? = some (C, T, N) ∧ C = RX9 ∧ Cond.fieldLink RX9 29 (T 3).1 (T 3).2.1 (T 3).2.2.1 ∈ lw_tbl := ⟨_, _, _, rfl, rfl, (tb_at (i := 180) (by decide +kernel))⟩
theorem flX9_36 : ax_F RX9 36 7 4 (.object "ParadeRow$Sightings") true := ⟨RX9, TX9, 9, tyX9, rfl, inX9, tyX9_ok, nmX9, by decide, rfl, rfl, rfl, Or.inl (tb_at (i := 181) (by decide +kernel))⟩
theorem ffX9_36 : ∃ (C : String) (T : u_T) (N : Nat), vwCl[7]? = some (C, T, N) ∧ C = RX9 ∧ Cond.fieldLink RX9 36 (T 4).1 (T 4).2.1 (T 4).2.2.1 ∈ lw_tbl := ⟨_, _, _, rfl, rfl, (tb_at (i := 181) (by decide +kernel))⟩
theorem flX9_43 : ax_F RX9 43 7 5 (.object "ParadeRow$Book") true := ⟨RX9, TX9, 9, tyX9, rfl, inX9, tyX9_ok, nmX9, by decide, rfl, rfl, rfl, Or.inl (tb_at (i := 182) (by decide +kernel))⟩
theorem ffX9_43 : ∃ (C : String) (T : u_T) (N : Nat), vwCl[7]? = some (C, T, N) ∧ C = RX9 ∧ Cond.fieldLink RX9 43 (T 5).1 (T 5).2.1 (T 5).2.2.1 ∈ lw_tbl := ⟨_, _, _, rfl, rfl, (tb_at (i := 182) (by decide +kernel))⟩
theorem flX9_50 : ax_F RX9 50 7 6 (.object "ParadeRow$Draws") true := ⟨RX9, TX9, 9, tyX9, rfl, inX9, tyX9_ok, nmX9, by decide, rfl, rfl, rfl, Or.inl (tb_at (i := 183) (by decide +kernel))⟩
theorem ffX9_50 : ∃ (C : String) (T : u_T) (N : Nat), vwCl[7]? = some (C, T, N) ∧ C = RX9 ∧ Cond.fieldLink RX9 50 (T 6).1 (T 6).2.1 (T 6).2.2.1 ∈ lw_tbl := ⟨_, _, _, rfl, rfl, (tb_at (i := 183) (by decide +kernel))⟩
theorem flX9_57 : ax_F RX9 57 7 7 (.object "ParadeRow$Image") true := ⟨RX9, TX9, 9, tyX9, rfl, inX9, tyX9_ok, nmX9, by decide, rfl, rfl, rfl, Or.inl (tb_at (i := 184) (by decide +kernel))⟩
theorem ffX9_57 : ∃ (C : String) (T : u_T) (N : Nat), vwCl[7]? = some (C, T, N) ∧ C = RX9 ∧ Cond.fieldLink RX9 57 (T 7).1 (T 7).2.1 (T 7).2.2.1 ∈ lw_tbl := ⟨_, _, _, rfl, rfl, (tb_at (i := 184) (by decide +kernel))⟩
theorem flX9_61 : ax_F RX9 61 7 8 (.object "ParadeRow$Image") true := ⟨RX9, TX9, 9, tyX9, rfl, inX9, tyX9_ok, nmX9, by decide, rfl, rfl, rfl, Or.inl (tb_at (i := 185) (by decide +kernel))⟩
theorem ffX9_61 : ∃ (C : String) (T : u_T) (N : Nat), vwCl[7]? = some (C, T, N) ∧ C = RX9 ∧ Cond.fieldLink RX9 61 (T 8).1 (T 8).2.1 (T 8).2.2.1 ∈ lw_tbl := ⟨_, _, _, rfl, rfl, (tb_at (i := 185) (by decide +kernel))⟩
theorem flX10_63 : ax_F RX10 63 8 0 (.int) false := ⟨RX10, TX10, 27, tyX10, rfl, inX10, tyX10_ok, nmX10, by decide, rfl, rfl, rfl, Or.inl (tb_at (i := 724) (by decide +kernel))⟩
theorem flX10_7 : ax_F RX10 7 8 1 (.array .int) true := ⟨RX10, TX10, 27, tyX10, rfl, inX10, tyX10_ok, nmX10, by decide, rfl, rfl, rfl, Or.inl (tb_at (i := 725) (by decide +kernel))⟩
theorem ffX10_7 : ∃ (C : String) (T : u_T) (N : Nat), vwCl[8]? = some (C, T, N) ∧ C = RX10 ∧ Cond.fieldLink RX10 7 (T 1).1 (T 1).2.1 (T 1).2.2.1 ∈ lw_tbl := ⟨_, _, _, rfl, rfl, (tb_at (i := 725) (by decide +kernel))⟩
theorem flX10_13 : ax_F RX10 13 8 2 (.array .int) true := ⟨RX10, TX10, 27, tyX10, rfl, inX10, tyX10_ok, nmX10, by decide, rfl, rfl, rfl, Or.inl (tb_at (i := 726) (by decide +kernel))⟩
theorem ffX10_13 : ∃ (C : String) (T : u_T) (N : Nat), vwCl[8]? = some (C, T, N) ∧ C = RX10 ∧ Cond.fieldLink RX10 13 (T 2).1 (T 2).2.1 (T 2).2.2.1 ∈ lw_tbl := ⟨_, _, _, rfl, rfl, (tb_at (i := 726) (by decide +kernel))⟩
theorem flX10_193 : ax_F RX10 193 8 3 (.int) false := ⟨RX10, TX10, 27, tyX10, rfl, inX10, tyX10_ok, nmX10, by decide, rfl, rfl, rfl, Or.inl (tb_at (i := 727) (by decide +kernel))⟩
theorem flX10_16 : ax_F RX10 16 8 4 (.array .int) true := ⟨RX10, TX10, 27, tyX10, rfl, inX10, tyX10_ok, nmX10, by decide, rfl, rfl, rfl, Or.inl (tb_at (i := 728) (by decide +kernel))⟩
theorem ffX10_16 : ∃ (C : String) (T : u_T) (N : Nat), vwCl[8]? = some (C, T, N) ∧ C = RX10 ∧ Cond.fieldLink RX10 16 (T 4).1 (T 4).2.1 (T 4).2.2.1 ∈ lw_tbl := ⟨_, _, _, rfl, rfl, (tb_at (i := 728) (by decide +kernel))⟩
theorem flX10_77 : ax_F RX10 77 8 5 (.int) false := ⟨RX10, TX10, 27, tyX10, rfl, inX10, tyX10_ok, nmX10, by decide, rfl, rfl, rfl, Or.inl (tb_at (i := 729) (by decide +kernel))⟩
theorem flX10_19 : ax_F RX10 19 8 6 (.int) false := ⟨RX10, TX10, 27, tyX10, rfl, inX10, tyX10_ok, nmX10, by decide, rfl, rfl, rfl, Or.inl (tb_at (i := 730) (by decide +kernel))⟩
theorem flX10_81 : ax_F RX10 81 8 7 (.int) false := ⟨RX10, TX10, 27, tyX10, rfl, inX10, tyX10_ok, nmX10, by decide, rfl, rfl, rfl, Or.inl (tb_at (i := 731) (by decide +kernel))⟩
theorem flX10_99 : ax_F RX10 99 8 8 (.int) false := ⟨RX10, TX10, 27, tyX10, rfl, inX10, tyX10_ok, nmX10, by decide, rfl, rfl, rfl, Or.inl (tb_at (i := 732) (by decide +kernel))⟩
theorem flX10_96 : ax_F RX10 96 8 9 (.int) false := ⟨RX10, TX10, 27, tyX10, rfl, inX10, tyX10_ok, nmX10, by decide, rfl, rfl, rfl, Or.inl (tb_at (i := 733) (by decide +kernel))⟩
theorem flX10_105 : ax_F RX10 105 8 10 (.int) false := ⟨RX10, TX10, 27, tyX10, rfl, inX10, tyX10_ok, nmX10, by decide, rfl, rfl, rfl, Or.inl (tb_at (i := 734) (by decide +kernel))⟩
theorem flX10_23 : ax_F RX10 23 8 11 (.array .int) true := ⟨RX10, TX10, 27, tyX10, rfl, inX10, tyX10_ok, nmX10, by decide, rfl, rfl, rfl, Or.inl (tb_at (i := 735) (by decide +kernel))⟩
theorem ffX10_23 : ∃ (C : String) (T : u_T) (N : Nat), vwCl[8]? = some (C, T, N) ∧ C = RX10 ∧ Cond.fieldLink RX10 23 (T 11).1 (T 11).2.1 (T 11).2.2.1 ∈ lw_tbl := ⟨_, _, _, rfl, rfl, (tb_at (i := 735) (by decide +kernel))⟩
theorem flX10_26 : ax_F RX10 26 8 12 (.array .int) true := ⟨RX10, TX10, 27, tyX10, rfl, inX10, tyX10_ok, nmX10, by decide, rfl, rfl, rfl, Or.inl (tb_at (i := 736) (by decide +kernel))⟩
theorem ffX10_26 : ∃ (C : String) (T : u_T) (N : Nat), vwCl[8]? = some (C, T, N) ∧ C = RX10 ∧ Cond.fieldLink RX10 26 (T 12).1 (T 12).2.1 (T 12).2.2.1 ∈ lw_tbl := ⟨_, _, _, rfl, rfl, (tb_at (i := 736) (by decide +kernel))⟩
theorem flX10_29 : ax_F RX10 29 8 13 (.array .boolean) true := ⟨RX10, TX10, 27, tyX10, rfl, inX10, tyX10_ok, nmX10, by decide, rfl, rfl, rfl, Or.inl (tb_at (i := 737) (by decide +kernel))⟩
theorem ffX10_29 : ∃ (C : String) (T : u_T) (N : Nat), vwCl[8]? = some (C, T, N) ∧ C = RX10 ∧ Cond.fieldLink RX10 29 (T 13).1 (T 13).2.1 (T 13).2.2.1 ∈ lw_tbl := ⟨_, _, _, rfl, rfl, (tb_at (i := 737) (by decide +kernel))⟩
theorem flX10_130 : ax_F RX10 130 8 14 (.int) false := ⟨RX10, TX10, 27, tyX10, rfl, inX10, tyX10_ok, nmX10, by decide, rfl, rfl, rfl, Or.inl (tb_at (i := 738) (by decide +kernel))⟩
theorem flX10_33 : ax_F RX10 33 8 15 (.array .int) true := ⟨RX10, TX10, 27, tyX10, rfl, inX10, tyX10_ok, nmX10, by decide, rfl, rfl, rfl, Or.inl (tb_at (i := 739) (by decide +kernel))⟩
theorem ffX10_33 : ∃ (C : String) (T : u_T) (N : Nat), vwCl[8]? = some (C, T, N) ∧ C = RX10 ∧ Cond.fieldLink RX10 33 (T 15).1 (T 15).2.1 (T 15).2.2.1 ∈ lw_tbl := ⟨_, _, _, rfl, rfl, (tb_at (i := 739) (by decide +kernel))⟩
theorem flX10_36 : ax_F RX10 36 8 16 (.array .int) true := ⟨RX10, TX10, 27, tyX10, rfl, inX10, tyX10_ok, nmX10, by decide, rfl, rfl, rfl, Or.inl (tb_at (i := 740) (by decide +kernel))⟩
theorem ffX10_36 : ∃ (C : String) (T : u_T) (N : Nat), vwCl[8]? = some (C, T, N) ∧ C = RX10 ∧ Cond.fieldLink RX10 36 (T 16).1 (T 16).2.1 (T 16).2.2.1 ∈ lw_tbl := ⟨_, _, _, rfl, rfl, (tb_at (i := 740) (by decide +kernel))⟩
theorem flX10_124 : ax_F RX10 124 8 17 (.int) false := ⟨RX10, TX10, 27, tyX10, rfl, inX10, tyX10_ok, nmX10, by decide, rfl, rfl, rfl, Or.inl (tb_at (i := 741) (by decide +kernel))⟩
theorem flX10_39 : ax_F RX10 39 8 18 (.array .int) true := ⟨RX10, TX10, 27, tyX10, rfl, inX10, tyX10_ok, nmX10, by decide, rfl, rfl, rfl, Or.inl (tb_at (i := 742) (by decide +kernel))⟩
theorem ffX10_39 : ∃ (C : String) (T : u_T) (N : Nat), vwCl[8]? = some (C, T, N) ∧ C = RX10 ∧ Cond.fieldLink RX10 39 (T 18).1 (T 18).2.1 (T 18).2.2.1 ∈ lw_tbl := ⟨_, _, _, rfl, rfl, (tb_at (i := 742) (by decide +kernel))⟩
theorem flX10_42 : ax_F RX10 42 8 19 (.array .int) true := ⟨RX10, TX10, 27, tyX10, rfl, inX10, tyX10_ok, nmX10, by decide, rfl, rfl, rfl, Or.inl (tb_at (i := 743) (by decide +kernel))⟩
theorem ffX10_42 : ∃ (C : String) (T : u_T) (N : Nat), vwCl[8]? = some (C, T, N) ∧ C = RX10 ∧ Cond.fieldLink RX10 42 (T 19).1 (T 19).2.1 (T 19).2.2.1 ∈ lw_tbl := ⟨_, _, _, rfl, rfl, (tb_at (i := 743) (by decide +kernel))⟩
theorem flX10_45 : ax_F RX10 45 8 20 (.array .int) true := ⟨RX10, TX10, 27, tyX10, rfl, inX10, tyX10_ok, nmX10, by decide, rfl, rfl, rfl, Or.inl (tb_at (i := 744) (by decide +kernel))⟩
theorem ffX10_45 : ∃ (C : String) (T : u_T) (N : Nat), vwCl[8]? = some (C, T, N) ∧ C = RX10 ∧ Cond.fieldLink RX10 45 (T 20).1 (T 20).2.1 (T 20).2.2.1 ∈ lw_tbl := ⟨_, _, _, rfl, rfl, (tb_at (i := 744) (by decide +kernel))⟩
theorem flX10_48 : ax_F RX10 48 8 21 (.array .int) true := ⟨RX10, TX10, 27, tyX10, rfl, inX10, tyX10_ok, nmX10, by decide, rfl, rfl, rfl, Or.inl (tb_at (i := 745) (by decide +kernel))⟩
theorem ffX10_48 : ∃ (C : String) (T : u_T) (N : Nat), vwCl[8]? = some (C, T, N) ∧ C = RX10 ∧ Cond.fieldLink RX10 48 (T 21).1 (T 21).2.1 (T 21).2.2.1 ∈ lw_tbl := ⟨_, _, _, rfl, rfl, (tb_at (i := 745) (by decide +kernel))⟩
theorem flX10_127 : ax_F RX10 127 8 22 (.int) false := ⟨RX10, TX10, 27, tyX10, rfl, inX10, tyX10_ok, nmX10, by decide, rfl, rfl, rfl, Or.inl (tb_at (i := 746) (by decide +kernel))⟩
theorem flX10_51 : ax_F RX10 51 8 23 (.array .int) true := ⟨RX10, TX10, 27, tyX10, rfl, inX10, tyX10_ok, nmX10, by decide, rfl, rfl, rfl, Or.inl (tb_at (i := 747) (by decide +kernel))⟩
theorem ffX10_51 : ∃ (C : String) (T : u_T) (N : Nat), vwCl[8]? = some (C, T, N) ∧ C = RX10 ∧ Cond.fieldLink RX10 51 (T 23).1 (T 23).2.1 (T 23).2.2.1 ∈ lw_tbl := ⟨_, _, _, rfl, rfl, (tb_at (i := 747) (by decide +kernel))⟩
theorem flX10_54 : ax_F RX10 54 8 24 (.array .int) true := ⟨RX10, TX10, 27, tyX10, rfl, inX10, tyX10_ok, nmX10, by decide, rfl, rfl, rfl, Or.inl (tb_at (i := 748) (by decide +kernel))⟩
theorem ffX10_54 : ∃ (C : String) (T : u_T) (N : Nat), vwCl[8]? = some (C, T, N) ∧ C = RX10 ∧ Cond.fieldLink RX10 54 (T 24).1 (T 24).2.1 (T 24).2.2.1 ∈ lw_tbl := ⟨_, _, _, rfl, rfl, (tb_at (i := 748) (by decide +kernel))⟩
theorem flX10_57 : ax_F RX10 57 8 25 (.array .int) true := ⟨RX10, TX10, 27, tyX10, rfl, inX10, tyX10_ok, nmX10, by decide, rfl, rfl, rfl, Or.inl (tb_at (i := 749) (by decide +kernel))⟩
theorem ffX10_57 : ∃ (C : String) (T : u_T) (N : Nat), vwCl[8]? = some (C, T, N) ∧ C = RX10 ∧ Cond.fieldLink RX10 57 (T 25).1 (T 25).2.1 (T 25).2.2.1 ∈ lw_tbl := ⟨_, _, _, rfl, rfl, (tb_at (i := 749) (by decide +kernel))⟩
theorem flX10_60 : ax_F RX10 60 8 26 (.array .boolean) true := ⟨RX10, TX10, 27, tyX10, rfl, inX10, tyX10_ok, nmX10, by decide, rfl, rfl, rfl, Or.inl (tb_at (i := 750) (by decide +kernel))⟩
theorem ffX10_60 : ∃ (C : String) (T : u_T) (N : Nat), vwCl[8]? = some (C, T, N) ∧ C = RX10 ∧ Cond.fieldLink RX10 60 (T 26).1 (T 26).2.1 (T 26).2.2.1 ∈ lw_tbl := ⟨_, _, _, rfl, rfl, (tb_at (i := 750) (by decide +kernel))⟩
theorem cnX9_128 : Cond.constant RX9 128 (-1000000001) ∈ lw_tbl := (tb_at (i := 219) (by decide +kernel))
theorem cnX9_123 : Cond.constant RX9 123 (-1000000002) ∈ lw_tbl := (tb_at (i := 220) (by decide +kernel))
theorem cnX9_200 : Cond.constant RX9 200 (-1000000003) ∈ lw_tbl := (tb_at (i := 221) (by decide +kernel))
theorem cnX9_290 : Cond.constant RX9 290 (-1000000004) ∈ lw_tbl := (tb_at (i := 222) (by decide +kernel))
theorem cnJ6_265 : Cond.constant RJ6 265 (1431655765) ∈ lw_tbl := (tb_at (i := 354) (by decide +kernel))
theorem cnJ6_266 : Cond.constant RJ6 266 (858993459) ∈ lw_tbl := (tb_at (i := 355) (by decide +kernel))
theorem cnJ6_267 : Cond.constant RJ6 267 (252645135) ∈ lw_tbl := (tb_at (i := 356) (by decide +kernel))
theorem cnX1_13 : Cond.constant RX1 13 (1103515245) ∈ lw_tbl := (tb_at (i := 493) (by decide +kernel))
theorem cnX1_14 : Cond.constant RX1 14 (2147483647) ∈ lw_tbl := (tb_at (i := 494) (by decide +kernel))
theorem cnX1_15 : Cond.constant RX1 15 (65536) ∈ lw_tbl := (tb_at (i := 495) (by decide +kernel))
theorem cnX2_49 : Cond.constant RX2 49 (1000000) ∈ lw_tbl := (tb_at (i := 546) (by decide +kernel))
theorem cnX10_74 : Cond.constantLong RX10 74 (255) ∈ lw_tbl := (tb_at (i := 811) (by decide +kernel))
theorem cnX10_76 : Cond.constant RX10 76 (-1000000002) ∈ lw_tbl := (tb_at (i := 815) (by decide +kernel))
theorem cnX10_80 : Cond.constant RX10 80 (-1000000004) ∈ lw_tbl := (tb_at (i := 816) (by decide +kernel))
theorem cnX10_88 : Cond.constantLong RX10 88 (48) ∈ lw_tbl := (tb_at (i := 845) (by decide +kernel))
theorem cnX10_90 : Cond.constantLong RX10 90 (57) ∈ lw_tbl := (tb_at (i := 846) (by decide +kernel))
theorem cnX10_152 : Cond.constant RX10 152 (-1000000001) ∈ lw_tbl := (tb_at (i := 894) (by decide +kernel))
theorem cnX10_169 : Cond.constantLong RX10 169 (60) ∈ lw_tbl := (tb_at (i := 915) (by decide +kernel))
theorem cnX10_171 : Cond.constant RX10 171 (-1000000003) ∈ lw_tbl := (tb_at (i := 916) (by decide +kernel))
theorem cnX10_191 : Cond.constantLong RX10 191 (7) ∈ lw_tbl := (tb_at (i := 963) (by decide +kernel))
theorem cnX10_196 : Cond.constantLong RX10 196 (1103515245) ∈ lw_tbl := (tb_at (i := 972) (by decide +kernel))
theorem cnX10_198 : Cond.constantLong RX10 198 (12345) ∈ lw_tbl := (tb_at (i := 973) (by decide +kernel))
theorem cnX10_200 : Cond.constantLong RX10 200 (2147483648) ∈ lw_tbl := (tb_at (i := 974) (by decide +kernel))
theorem cnX10_202 : Cond.constant RX10 202 (65536) ∈ lw_tbl := (tb_at (i := 975) (by decide +kernel))
theorem cnX10_209 : Cond.constantLong RX10 209 (2) ∈ lw_tbl := (tb_at (i := 992) (by decide +kernel))
theorem cnX10_211 : Cond.constantLong RX10 211 (8) ∈ lw_tbl := (tb_at (i := 993) (by decide +kernel))
theorem cnX10_213 : Cond.constant RX10 213 (1000000) ∈ lw_tbl := (tb_at (i := 998) (by decide +kernel))
theorem nwL_7 : ax_N RL 7 7 9 [.null, .null, .null, .null, .null, .null, .null, .null, .null] := ⟨RX9, TX9, tyX9, rfl, inX9, tyX9_ok, (tb_at (i := 16) (by decide +kernel)), (tb_at (i := 17) (by decide +kernel)), (tb_at (i := 1) (by decide +kernel)), by decide +kernel⟩
theorem clL_7 : Cond.classLink RL 7 RX9 ∈ lw_tbl := (tb_at (i := 16) (by decide +kernel))
theorem nwX9_7 : ax_N RX9 7 6 6 [.null, .int 0, .int 0, .int 0, .int 0, .int 0] := ⟨RX8, TX8, tyX8, rfl, inX8, tyX8_ok, (tb_at (i := 24) (by decide +kernel)), (tb_at (i := 25) (by decide +kernel)), (tb_at (i := 2) (by decide +kernel)), by decide +kernel⟩
theorem clX9_7 : Cond.classLink RX9 7 RX8 ∈ lw_tbl := (tb_at (i := 24) (by decide +kernel))
theorem nwX9_16 : ax_N RX9 16 4 6 [.null, .null, .null, .null, .int 0, .int 0] := ⟨RX5, TX5, tyX5, rfl, inX5, tyX5_ok, (tb_at (i := 52) (by decide +kernel)), (tb_at (i := 53) (by decide +kernel)), (tb_at (i := 3) (by decide +kernel)), by decide +kernel⟩
theorem clX9_16 : Cond.classLink RX9 16 RX5 ∈ lw_tbl := (tb_at (i := 52) (by decide +kernel))
theorem nwX9_26 : ax_N RX9 26 3 3 [.null, .int 0, .int 0] := ⟨RX4, TX4, tyX4, rfl, inX4, tyX4_ok, (tb_at (i := 85) (by decide +kernel)), (tb_at (i := 86) (by decide +kernel)), (tb_at (i := 5) (by decide +kernel)), by decide +kernel⟩
theorem clX9_26 : Cond.classLink RX9 26 RX4 ∈ lw_tbl := (tb_at (i := 85) (by decide +kernel))
theorem nwX4_9 : ax_N RX4 9 4 6 [.null, .null, .null, .null, .int 0, .int 0] := ⟨RX5, TX5, tyX5, rfl, inX5, tyX5_ok, (tb_at (i := 91) (by decide +kernel)), (tb_at (i := 53) (by decide +kernel)), (tb_at (i := 3) (by decide +kernel)), by decide +kernel⟩
theorem clX4_9 : Cond.classLink RX4 9 RX5 ∈ lw_tbl := (tb_at (i := 91) (by decide +kernel))
theorem nwX9_33 : ax_N RX9 33 5 5 [.null, .null, .null, .null, .int 0] := ⟨RX7, TX7, tyX7, rfl, inX7, tyX7_ok, (tb_at (i := 105) (by decide +kernel)), (tb_at (i := 106) (by decide +kernel)), (tb_at (i := 6) (by decide +kernel)), by decide +kernel⟩
theorem clX9_33 : Cond.classLink RX9 33 RX7 ∈ lw_tbl := (tb_at (i := 105) (by decide +kernel))
theorem nwX9_40 : ax_N RX9 40 0 3 [.null, .null, .int 0] := ⟨RX0, TX0, tyX0, rfl, inX0, tyX0_ok, (tb_at (i := 128) (by decide +kernel)), (tb_at (i := 129) (by decide +kernel)), (tb_at (i := 7) (by decide +kernel)), by decide +kernel⟩
theorem clX9_40 : Cond.classLink RX9 40 RX0 ∈ lw_tbl := (tb_at (i := 128) (by decide +kernel))
theorem nwX9_47 : ax_N RX9 47 1 1 [.int 0] := ⟨RX1, TX1, tyX1, rfl, inX1, tyX1_ok, (tb_at (i := 145) (by decide +kernel)), (tb_at (i := 146) (by decide +kernel)), (tb_at (i := 8) (by decide +kernel)), by decide +kernel⟩
theorem clX9_47 : Cond.classLink RX9 47 RX1 ∈ lw_tbl := (tb_at (i := 145) (by decide +kernel))
theorem nwX9_54 : ax_N RX9 54 2 3 [.null, .int 0, .int 0] := ⟨RX3, TX3, tyX3, rfl, inX3, tyX3_ok, (tb_at (i := 156) (by decide +kernel)), (tb_at (i := 157) (by decide +kernel)), (tb_at (i := 9) (by decide +kernel)), by decide +kernel⟩
theorem clX9_54 : Cond.classLink RX9 54 RX3 ∈ lw_tbl := (tb_at (i := 156) (by decide +kernel))
theorem nwX3_7 : ax_N RX3 7 4 6 [.null, .null, .null, .null, .int 0, .int 0] := ⟨RX5, TX5, tyX5, rfl, inX5, tyX5_ok, (tb_at (i := 162) (by decide +kernel)), (tb_at (i := 53) (by decide +kernel)), (tb_at (i := 3) (by decide +kernel)), by decide +kernel⟩
theorem clX3_7 : Cond.classLink RX3 7 RX5 ∈ lw_tbl := (tb_at (i := 162) (by decide +kernel))
theorem nwL_10 : ax_N RL 10 8 27 [.int 0, .null, .null, .int 0, .null, .int 0, .int 0, .int 0, .int 0, .int 0, .int 0, .null, .null, .null, .int 0, .null, .null, .int 0, .null, .null, .null, .null, .int 0, .null, .null, .null, .null] := ⟨RX10, TX10, tyX10, rfl, inX10, tyX10_ok, (tb_at (i := 718) (by decide +kernel)), (tb_at (i := 719) (by decide +kernel)), (tb_at (i := 10) (by decide +kernel)), by decide +kernel⟩
theorem clL_10 : Cond.classLink RL 10 RX10 ∈ lw_tbl := (tb_at (i := 718) (by decide +kernel))
theorem wd_copy : Cond.native arraycopyName ∈ lw_tbl ∧ Cond.static arraycopyName ∈ lw_tbl ∧ Cond.initialized "java/lang/System" ∈ lw_tbl := ⟨(tb_at (i := 314) (by decide +kernel)), (tb_at (i := 313) (by decide +kernel)), (tb_at (i := 11) (by decide +kernel))⟩
theorem wd_obj : Cond.instanceMethod objectInit ∈ lw_tbl ∧ Cond.code objectInit ⟨#[0xb1]⟩ 1 none ∈ lw_tbl := ⟨(tb_at (i := 22) (by decide +kernel)), (tb_at (i := 23) (by decide +kernel))⟩
end
section
/-! ===== the heap once all is made: a fixed shape, and a memory of ints: mem a k is the k-th int of cell a ===== -/
abbrev ax_S : Type := (Nat × Nat) ⊕ ((Nat × (Nat → Option Nat)) ⊕ (Nat × List (Option Nat)))
abbrev ax_Me : Type := Nat → Nat → Int32
def ax_lf : List (Option Nat) → Nat → (Nat → Int32) → List Value
  | [], _, _ => []
  | none :: q, j, r => .int (r j) :: ax_lf q (j + 1) r
  | some a :: q, j, r => .ref a :: ax_lf q (j + 1) r
theorem ax_lf_len : ∀ (q : List (Option Nat)) (j : Nat) (r : Nat → Int32), (ax_lf q j r).length = q.length
  | [], _, _ => rfl
  | none :: q, j, r => by simp [ax_lf, ax_lf_len q]
  | some a :: q, j, r => by simp [ax_lf, ax_lf_len q]
theorem ax_lf_int : ∀ (q : List (Option Nat)) (j k : Nat) (r : Nat → Int32), q[k]? = some none → (ax_lf q j r)[k]? = some (.int (r (j + k)))
  | [], _, k, _, h => by simp at h
  | none :: q, j, 0, r, h => by simp [ax_lf]
  | some a :: q, j, 0, r, h => by simp at h
  | none :: q, j, k + 1, r, h => by
    rw [List.getElem?_cons_succ] at h
    rw [ax_lf, List.getElem?_cons_succ, ax_lf_int q (j + 1) k r h, show j + 1 + k = j + (k + 1) by omega]
  | some a :: q, j, k + 1, r, h => by
    rw [List.getElem?_cons_succ] at h
    rw [ax_lf, List.getElem?_cons_succ, ax_lf_int q (j + 1) k r h, show j + 1 + k = j + (k + 1) by omega]
theorem ax_lf_ref : ∀ (q : List (Option Nat)) (j k b : Nat) (r : Nat → Int32), q[k]? = some (some b) → (ax_lf q j r)[k]? = some (.ref b)
  | [], _, k, _, _, h => by simp at h
  | none :: q, j, 0, b, r, h => by simp at h
  | some a :: q, j, 0, b, r, h => by
    rw [List.getElem?_cons_zero] at h
    cases h
    simp [ax_lf]
  | none :: q, j, k + 1, b, r, h => by
    rw [List.getElem?_cons_succ] at h
    rw [ax_lf, List.getElem?_cons_succ, ax_lf_ref q (j + 1) k b r h]
  | some a :: q, j, k + 1, b, r, h => by
    rw [List.getElem?_cons_succ] at h
    rw [ax_lf, List.getElem?_cons_succ, ax_lf_ref q (j + 1) k b r h]
theorem ax_lf_congr : ∀ (q : List (Option Nat)) (j : Nat) (r r' : Nat → Int32), (∀ i, j ≤ i → r i = r' i) → ax_lf q j r = ax_lf q j r'
  | [], _, _, _, _ => rfl
  | none :: q, j, r, r', h => by rw [ax_lf, ax_lf, h j (Nat.le_refl _), ax_lf_congr q (j + 1) r r' (fun i hi => h i (by omega))]
  | some a :: q, j, r, r', h => by rw [ax_lf, ax_lf, ax_lf_congr q (j + 1) r r' (fun i hi => h i (by omega))]
theorem ax_lf_set : ∀ (q : List (Option Nat)) (j k : Nat) (r r' : Nat → Int32) (v : Int32), q[k]? = some none → r' (j + k) = v → (∀ i, i ≠ j + k → r' i = r i) → (ax_lf q j r).set k (.int v) = ax_lf q j r'
  | [], _, k, _, _, _, h, _, _ => by simp at h
  | none :: q, j, 0, r, r', v, _, h1, h2 => by
    have e : ax_lf q (j + 1) r = ax_lf q (j + 1) r' := ax_lf_congr q (j + 1) r r' (fun i hi => (h2 i (by omega)).symm)
    simp only [ax_lf, List.set_cons_zero]
    rw [e, ← h1, Nat.add_zero]
  | some a :: q, j, 0, r, r', v, h, _, _ => by simp at h
  | none :: q, j, k + 1, r, r', v, h, h1, h2 => by
    rw [List.getElem?_cons_succ] at h
    rw [ax_lf, List.set_cons_succ, ax_lf, ax_lf_set q (j + 1) k r r' v h (by rw [show j + 1 + k = j + (k + 1) by omega]; exact h1) (fun i hi => h2 i (by omega)), h2 j (by omega)]
  | some a :: q, j, k + 1, r, r', v, h, h1, h2 => by
    rw [List.getElem?_cons_succ] at h
    rw [ax_lf, List.set_cons_succ, ax_lf, ax_lf_set q (j + 1) k r r' v h (by rw [show j + 1 + k = j + (k + 1) by omega]; exact h1) (fun i hi => h2 i (by omega))]
def ax_ce : ax_S → (Nat → Int32) → ax_C
  | .inl q, r => ax_arr q.1 q.2 r
  | .inr (.inl q), _ => ax_arq q.1 q.2
  | .inr (.inr q), r => ax_obj q.1 (ax_lf q.2 0 r)
/-- People at a: its own cell, then marks, changes, identities, memories -/
abbrev ax_sO (ci : Nat) (q : List (Option Nat)) : ax_S := .inr (.inr (ci, q))
abbrev ax_sA (n : Nat) : ax_S := .inl (0, n)
abbrev ax_sZ (n : Nat) : ax_S := .inl (1, n)
abbrev ax_sP (a : Nat) : ax_S := ax_sO 4 [some (a + 1), some (a + 2), some (a + 3), some (a + 4), none, none]
def ax_pp (j a : Nat) : ax_S := match j with
  | 0 => ax_sP a
  | 4 => ax_sA 64
  | _ => ax_sA 8
def ax_sM (k : Nat) : ax_S := match k with
  | 136 => ax_sO 8 [none, some 137, some 138, none, some 139, none, none, none, none, none, none, some 140, some 141, some 142, none, some 143, some 144, none, some 145, some 146, some 147, some 148, none, some 149, some 150, some 151, some 152]
  | 137 => ax_sA 8
  | 138 => ax_sA 81
  | 139 => ax_sA 240
  | 140 => ax_sA 8
  | 141 => ax_sA 8
  | 142 => ax_sZ 64
  | 143 => ax_sA 1620
  | 144 => ax_sA 8
  | 145 => ax_sA 8
  | 146 => ax_sA 8
  | 147 => ax_sA 8
  | 148 => ax_sA 8
  | 149 => ax_sA 15
  | 150 => ax_sA 15
  | 151 => ax_sA 164
  | _ => ax_sZ 2
def ax_sT (k : Nat) : ax_S := match k with
  | 115 => ax_sO 5 [some 116, some 117, some 118, some 119, none]
  | 120 => ax_sO 0 [some 121, some 122, none]
  | 121 => ax_sA 15
  | 122 => ax_sA 15
  | 123 => ax_sO 1 [none]
  | 124 => ax_sO 2 [some 125, none, none]
  | 130 => ax_sO 2 [some 131, none, none]
  | _ => ax_sA 8
def ax_sg (k : Nat) : ax_S :=
  if k = 0 then ax_sO 7 [some 1, some 3, some 8, some 13, some 115, some 120, some 123, some 124, some 130]
  else if k = 1 then ax_sO 6 [some 2, none, none, none, none, none]
  else if k = 2 then ax_sA 240
  else if k < 13 then ax_pp ((k - 3) % 5) k
  else if k = 13 then ax_sO 3 [some 14, none, none]
  else if k = 14 then .inr (.inl (20, fun i => some (15 + 5 * i)))
  else if k < 115 then ax_pp ((k - 15) % 5) k
  else if k < 125 then ax_sT k
  else if k < 130 then ax_pp ((k - 125) % 5) k
  else if k = 130 then ax_sT k
  else if k < 136 then ax_pp ((k - 131) % 5) k
  else ax_sM k
def ax_hm (mem : ax_Me) : ax_H := fun k => ax_ce (ax_sg k) (mem k)
def ax_is (a : Nat) (s : ax_S) : Prop := a < 153 ∧ ax_sg a = s
def ax_isP (a : Nat) : Prop := a = 3 ∨ a = 8 ∨ a = 125 ∨ a = 131 ∨ (15 ≤ a ∧ a < 115 ∧ (a - 15) % 5 = 0)
theorem ax_pp_at {a : Nat} (h : ax_isP a) : ax_is a (ax_sP a) ∧ ax_is (a + 1) (ax_sA 8) ∧ ax_is (a + 2) (ax_sA 8) ∧ ax_is (a + 3) (ax_sA 8) ∧ ax_is (a + 4) (ax_sA 64) := by
  rcases h with rfl | rfl | rfl | rfl | ⟨h1, h2, h3⟩
  · exact ⟨⟨by decide, rfl⟩, ⟨by decide, rfl⟩, ⟨by decide, rfl⟩, ⟨by decide, rfl⟩, ⟨by decide, rfl⟩⟩
  · exact ⟨⟨by decide, rfl⟩, ⟨by decide, rfl⟩, ⟨by decide, rfl⟩, ⟨by decide, rfl⟩, ⟨by decide, rfl⟩⟩
  · exact ⟨⟨by decide, rfl⟩, ⟨by decide, rfl⟩, ⟨by decide, rfl⟩, ⟨by decide, rfl⟩, ⟨by decide, rfl⟩⟩
  · exact ⟨⟨by decide, rfl⟩, ⟨by decide, rfl⟩, ⟨by decide, rfl⟩, ⟨by decide, rfl⟩, ⟨by decide, rfl⟩⟩
  · have key : ∀ j, j < 5 → ax_is (a + j) (ax_pp j (a + j)) := by
      intro j hj
      refine ⟨by omega, ?_⟩
      unfold ax_sg
      rw [if_neg (by omega), if_neg (by omega), if_neg (by omega), if_neg (by omega), if_neg (by omega), if_neg (by omega), if_pos (by omega), show (a + j - 15) % 5 = j by omega]
    exact ⟨key 0 (by decide), key 1 (by decide), key 2 (by decide), key 3 (by decide), key 4 (by decide)⟩
theorem ax_isP.o {a : Nat} (h : ax_isP a) : ax_is a (ax_sP a) := (ax_pp_at h).1
theorem ax_isP.m1 {a : Nat} (h : ax_isP a) : ax_is (a + 1) (ax_sA 8) := (ax_pp_at h).2.1
theorem ax_isP.m2 {a : Nat} (h : ax_isP a) : ax_is (a + 2) (ax_sA 8) := (ax_pp_at h).2.2.1
theorem ax_isP.m3 {a : Nat} (h : ax_isP a) : ax_is (a + 3) (ax_sA 8) := (ax_pp_at h).2.2.2.1
theorem ax_isP.m4 {a : Nat} (h : ax_isP a) : ax_is (a + 4) (ax_sA 64) := (ax_pp_at h).2.2.2.2
theorem isP3 : ax_isP 3 := Or.inl rfl
theorem isP8 : ax_isP 8 := Or.inr (Or.inl rfl)
theorem isP125 : ax_isP 125 := Or.inr (Or.inr (Or.inl rfl))
theorem isP131 : ax_isP 131 := Or.inr (Or.inr (Or.inr (Or.inl rfl)))
theorem isPi {i : Nat} (h : i < 20) : ax_isP (15 + 5 * i) := Or.inr (Or.inr (Or.inr (Or.inr ⟨by omega, by omega, by omega⟩)))
theorem is0 : ax_is 0 (ax_sO 7 [some 1, some 3, some 8, some 13, some 115, some 120, some 123, some 124, some 130]) := ⟨by decide, rfl⟩
theorem is1 : ax_is 1 (ax_sO 6 [some 2, none, none, none, none, none]) := ⟨by decide, rfl⟩
theorem is2 : ax_is 2 (ax_sA 240) := ⟨by decide, rfl⟩
theorem is13 : ax_is 13 (ax_sO 3 [some 14, none, none]) := ⟨by decide, rfl⟩
theorem is14 : ax_is 14 (.inr (.inl (20, fun i => some (15 + 5 * i)))) := ⟨by decide, rfl⟩
theorem is115 : ax_is 115 (ax_sO 5 [some 116, some 117, some 118, some 119, none]) := ⟨by decide, rfl⟩
theorem is116 : ax_is 116 (ax_sA 8) := ⟨by decide, rfl⟩
theorem is117 : ax_is 117 (ax_sA 8) := ⟨by decide, rfl⟩
theorem is118 : ax_is 118 (ax_sA 8) := ⟨by decide, rfl⟩
theorem is119 : ax_is 119 (ax_sA 8) := ⟨by decide, rfl⟩
theorem is120 : ax_is 120 (ax_sO 0 [some 121, some 122, none]) := ⟨by decide, rfl⟩
theorem is121 : ax_is 121 (ax_sA 15) := ⟨by decide, rfl⟩
theorem is122 : ax_is 122 (ax_sA 15) := ⟨by decide, rfl⟩
theorem is123 : ax_is 123 (ax_sO 1 [none]) := ⟨by decide, rfl⟩
theorem is124 : ax_is 124 (ax_sO 2 [some 125, none, none]) := ⟨by decide, rfl⟩
theorem is130 : ax_is 130 (ax_sO 2 [some 131, none, none]) := ⟨by decide, rfl⟩
theorem is136 : ax_is 136 (ax_sO 8 [none, some 137, some 138, none, some 139, none, none, none, none, none, none, some 140, some 141, some 142, none, some 143, some 144, none, some 145, some 146, some 147, some 148, none, some 149, some 150, some 151, some 152]) := ⟨by decide, rfl⟩
theorem is137 : ax_is 137 (ax_sA 8) := ⟨by decide, rfl⟩
theorem is138 : ax_is 138 (ax_sA 81) := ⟨by decide, rfl⟩
theorem is139 : ax_is 139 (ax_sA 240) := ⟨by decide, rfl⟩
theorem is140 : ax_is 140 (ax_sA 8) := ⟨by decide, rfl⟩
theorem is141 : ax_is 141 (ax_sA 8) := ⟨by decide, rfl⟩
theorem is142 : ax_is 142 (ax_sZ 64) := ⟨by decide, rfl⟩
theorem is143 : ax_is 143 (ax_sA 1620) := ⟨by decide, rfl⟩
theorem is144 : ax_is 144 (ax_sA 8) := ⟨by decide, rfl⟩
theorem is145 : ax_is 145 (ax_sA 8) := ⟨by decide, rfl⟩
theorem is146 : ax_is 146 (ax_sA 8) := ⟨by decide, rfl⟩
theorem is147 : ax_is 147 (ax_sA 8) := ⟨by decide, rfl⟩
theorem is148 : ax_is 148 (ax_sA 8) := ⟨by decide, rfl⟩
theorem is149 : ax_is 149 (ax_sA 15) := ⟨by decide, rfl⟩
theorem is150 : ax_is 150 (ax_sA 15) := ⟨by decide, rfl⟩
theorem is151 : ax_is 151 (ax_sA 164) := ⟨by decide, rfl⟩
theorem is152 : ax_is 152 (ax_sZ 2) := ⟨by decide, rfl⟩
/-- one int is another -/
def ax_u (mem : ax_Me) (a k : Nat) (v : Int32) : ax_Me := fun b j => if b = a ∧ j = k then v else mem b j
theorem ax_u_self {mem : ax_Me} {a k : Nat} {v : Int32} : ax_u mem a k v a k = v := by simp [ax_u]
theorem ax_u_ne {mem : ax_Me} {a k b j : Nat} {v : Int32} (h : ¬ (b = a ∧ j = k)) : ax_u mem a k v b j = mem b j := by simp [ax_u, h]
theorem ax_u_row {mem : ax_Me} {a k : Nat} {v : Int32} : ax_u mem a k v a = upd (mem a) k v := by
  funext j
  simp [ax_u, upd]
theorem ax_u_off {mem : ax_Me} {a k b : Nat} {v : Int32} (h : b ≠ a) : ax_u mem a k v b = mem b := by
  funext j
  simp [ax_u, h]
theorem ax_hm_arr {mem : ax_Me} {a t N : Nat} (h : ax_is a (.inl (t, N))) : ax_hm mem a = ax_arr t N (mem a) := by
  unfold ax_hm
  rw [h.2]
  rfl
theorem ax_hm_obj {mem : ax_Me} {a ci : Nat} {q : List (Option Nat)} (h : ax_is a (ax_sO ci q)) : ax_hm mem a = ax_obj ci (ax_lf q 0 (mem a)) := by
  unfold ax_hm
  rw [h.2]
  rfl
theorem ax_hm_arq {mem : ax_Me} {a N : Nat} {f : Nat → Option Nat} (h : ax_is a (.inr (.inl (N, f)))) : ax_hm mem a = ax_arq N f := by
  unfold ax_hm
  rw [h.2]
  rfl
theorem ax_hm_up {mem mem' : ax_Me} {a : Nat} {c : ax_C} (hc : c = ax_ce (ax_sg a) (mem' a)) (ho : ∀ b, b ≠ a → mem' b = mem b) : va_up (ax_hm mem) a c = ax_hm mem' := by
  funext b
  unfold va_up ax_hm
  by_cases hb : b = a
  · subst hb
    rw [if_pos rfl, hc]
  · rw [if_neg hb, ho b hb]
/-- n ints are another row's -/
def ax_cp (mem : ax_Me) (a0 a1 N : Nat) : ax_Me := fun b j => if b = a1 ∧ j < N then mem a0 j else mem b j
section AXM
variable {G : ax_G} {l : Launch} {M : ax_M} {d pc pc' : Nat} {ls st : List Value} {z : Nat} {mem : ax_Me} {n' z' : Nat} {Q : Option Value → ax_H → Prop}
theorem am_getI {a idx ci k : Nat} {ty : FieldType} {fin : Bool} {q : List (Option Nat)} (hF : ax_F M.1.cls idx ci k ty fin) (hd : decode M.2.1 pc = .ok (.getfield idx, 3)) (hp : pc + 3 = pc') (hs : ax_is a (ax_sO ci q)) (hk : q[k]? = some none)
    (kk : AX G l M d pc' ls (.int (mem a k) :: st) 153 z (ax_hm mem) n' z' Q) : AX G l M d pc ls (.ref a :: st) 153 z (ax_hm mem) n' z' Q :=
  ax_get hF hd hp hs.1 (ax_hm_obj hs) (by rw [ax_lf_int q 0 k _ hk, Nat.zero_add]) kk
theorem am_getR {a idx ci k b : Nat} {ty : FieldType} {fin : Bool} {q : List (Option Nat)} (hF : ax_F M.1.cls idx ci k ty fin) (hd : decode M.2.1 pc = .ok (.getfield idx, 3)) (hp : pc + 3 = pc') (hs : ax_is a (ax_sO ci q)) (hk : q[k]? = some (some b))
    (kk : AX G l M d pc' ls (.ref b :: st) 153 z (ax_hm mem) n' z' Q) : AX G l M d pc ls (.ref a :: st) 153 z (ax_hm mem) n' z' Q :=
  ax_get hF hd hp hs.1 (ax_hm_obj hs) (ax_lf_ref q 0 k b _ hk) kk
theorem am_putI {a idx ci k : Nat} {ty : FieldType} {q : List (Option Nat)} {v : Int32} (hF : ax_F M.1.cls idx ci k ty false) (hd : decode M.2.1 pc = .ok (.putfield idx, 3)) (hp : pc + 3 = pc') (hs : ax_is a (ax_sO ci q)) (hk : q[k]? = some none) (hn : narrow ty (.int v) = .int v) (hfit : fits ty (.int v) = true)
    (kk : AX G l M d pc' ls st 153 z (ax_hm (ax_u mem a k v)) n' z' Q) : AX G l M d pc ls (.int v :: .ref a :: st) 153 z (ax_hm mem) n' z' Q := by
  refine ax_put hF hd hp hs.1 (ax_hm_obj hs) (by rw [ax_lf_len]; exact (List.getElem?_eq_some_iff.mp hk).1) hn hfit ?_
  rw [ax_lf_set q 0 k (mem a) (upd (mem a) k v) v hk (by simp [upd]) (fun i hi => by simp [upd, show i ≠ k by omega])]
  rw [ax_hm_up (mem' := ax_u mem a k v) (by rw [hs.2, ax_u_row]; rfl) (fun b hb => ax_u_off hb)]
  exact kk
theorem am_iald {a N : Nat} {i : Int32} (hd : decode M.2.1 pc = .ok (.iaload, 1)) (hp : pc + 1 = pc') (hs : ax_is a (ax_sA N)) (hin : vp_in i N)
    (kk : AX G l M d pc' ls (.int (mem a i.toNatClampNeg) :: st) 153 z (ax_hm mem) n' z' Q) : AX G l M d pc ls (.int i :: .ref a :: st) 153 z (ax_hm mem) n' z' Q :=
  ax_iald hd hp hs.1 (ax_hm_arr hs) hin kk
theorem am_zald {a N : Nat} {i : Int32} (hd : decode M.2.1 pc = .ok (.baload, 1)) (hp : pc + 1 = pc') (hs : ax_is a (ax_sZ N)) (hin : vp_in i N)
    (kk : AX G l M d pc' ls (.int (mem a i.toNatClampNeg) :: st) 153 z (ax_hm mem) n' z' Q) : AX G l M d pc ls (.int i :: .ref a :: st) 153 z (ax_hm mem) n' z' Q :=
  ax_zald hd hp hs.1 (ax_hm_arr hs) hin kk
theorem am_iast {a N : Nat} {i x : Int32} (hd : decode M.2.1 pc = .ok (.iastore, 1)) (hp : pc + 1 = pc') (hs : ax_is a (ax_sA N)) (hin : vp_in i N)
    (kk : AX G l M d pc' ls st 153 z (ax_hm (ax_u mem a i.toNatClampNeg x)) n' z' Q) : AX G l M d pc ls (.int x :: .int i :: .ref a :: st) 153 z (ax_hm mem) n' z' Q := by
  refine ax_iast hd hp hs.1 (ax_hm_arr hs) hin ?_
  rw [ax_hm_up (mem' := ax_u mem a i.toNatClampNeg x) (by rw [hs.2, ax_u_row]; rfl) (fun b hb => ax_u_off hb)]
  exact kk
theorem am_zast {a N : Nat} {i x : Int32} (hd : decode M.2.1 pc = .ok (.bastore, 1)) (hp : pc + 1 = pc') (hs : ax_is a (ax_sZ N)) (hin : vp_in i N) (hn : narrow .boolean (.int x) = .int x)
    (kk : AX G l M d pc' ls st 153 z (ax_hm (ax_u mem a i.toNatClampNeg x)) n' z' Q) : AX G l M d pc ls (.int x :: .int i :: .ref a :: st) 153 z (ax_hm mem) n' z' Q := by
  refine ax_zast hd hp hs.1 (ax_hm_arr hs) hin hn ?_
  rw [ax_hm_up (mem' := ax_u mem a i.toNatClampNeg x) (by rw [hs.2, ax_u_row]; rfl) (fun b hb => ax_u_off hb)]
  exact kk
theorem am_aald {i : Int32} (hd : decode M.2.1 pc = .ok (.aaload, 1)) (hp : pc + 1 = pc') (hin : vp_in i 20)
    (kk : AX G l M d pc' ls (.ref (15 + 5 * i.toNatClampNeg) :: st) 153 z (ax_hm mem) n' z' Q) : AX G l M d pc ls (.int i :: .ref 14 :: st) 153 z (ax_hm mem) n' z' Q :=
  ax_aald hd hp is14.1 (ax_hm_arq is14) hin rfl kk
theorem am_copy {idx a0 a1 N : Nat} {k : Int32} (hl : Cond.methodLink M.1.cls idx arraycopyName ∈ lw_tbl) (hd : decode M.2.1 pc = .ok (.invokestatic idx, 3)) (hp : pc + 3 = pc') (hst : 2 * st.length ≤ 8) (hdd : 1 ≤ d) (h0 : ax_is a0 (ax_sA N)) (h1 : ax_is a1 (ax_sA N)) (hk0 : ¬ k < 0) (hk : k.toNatClampNeg = N)
    (kk : AX G l M d pc' ls st 153 z (ax_hm (ax_cp mem a0 a1 N)) n' z' Q) : AX G l M d pc ls (.int k :: .int 0 :: .ref a1 :: .int 0 :: .ref a0 :: st) 153 z (ax_hm mem) n' z' Q := by
  have z0 : (0 : Int32).toNatClampNeg = 0 := rfl
  refine ax_copy hl hd hp hst hdd h0.1 (ax_hm_arr h0) h1.1 (ax_hm_arr h1) (by decide) (by decide) hk0 (by rw [z0, hk, Nat.zero_add]; exact Nat.le_refl _) (by rw [z0, hk, Nat.zero_add]; exact Nat.le_refl _) wd_copy ?_
  rw [ax_hm_up (mem' := ax_cp mem a0 a1 N) ?_ (fun b hb => by funext j; simp [ax_cp, hb])]
  · exact kk
  · rw [h1.2, z0, hk]
    show ax_arr 0 N _ = ax_arr 0 N _
    congr 1
    funext j
    simp [va_cpy, ax_cp]
end AXM
/-- a contract over the memory: the answer, and the memory behind it -/
abbrev AD (G : ax_G) (l : Launch) (d : Nat) (M : ax_M) (as : List Value) (mem : ax_Me) (r : Option Value) (mem' : ax_Me) : Prop :=
  AC G l d M as 153 0 (ax_hm mem) 153 0 (fun r1 h1 => r1 = r ∧ h1 = ax_hm mem')
end
section
/-! ===== calls over the memory, by the number of arguments ===== -/
section AXD
variable {G : ax_G} {l : Launch} {M : ax_M} {d pc pc' : Nat} {ls st : List Value} {mem mem' : ax_Me} {Q : Option Value → ax_H → Prop}
theorem ad_S0 {M' : ax_M} {idx d' : Nat} {v : Value} (hM : ax_MS M' 0) (hl : ax_LK M.1.cls idx M') (hd : decode M.2.1 pc = .ok (.invokestatic idx, 3)) (hp : pc + 3 = pc') (hst : 2 * st.length ≤ 8) (hdd : d' + 1 ≤ d) (hc : AD G l d' M' [] mem (some v) mem') (kk : AX G l M d pc' ls (v :: st) 153 0 (ax_hm mem') 153 0 Q) : AX G l M d pc ls (st) 153 0 (ax_hm mem) 153 0 Q :=
  ax_callS (as := []) hM hl hd hp rfl hst hdd (Nat.le_refl _) (Nat.le_refl _) hc (fun r h1 q => by obtain ⟨rfl, rfl⟩ := q; exact kk)
theorem ad_V0 {M' : ax_M} {idx d' b ci : Nat} {q : List (Option Nat)} {T : u_T} {N : Nat} {v : Value} (hM : ax_MV M' 0) (hl : ax_LK M.1.cls idx M') (hd : decode M.2.1 pc = .ok (.invokevirtual idx, 3)) (hp : pc + 3 = pc') (hs : ax_is b (ax_sO ci q)) (hci : vwCl[ci]? = some (M'.1.cls, T, N)) (hst : 2 * st.length ≤ 8) (hdd : d' + 1 ≤ d) (hc : AD G l d' M' (.ref b :: []) mem (some v) mem') (kk : AX G l M d pc' ls (v :: st) 153 0 (ax_hm mem') 153 0 Q) : AX G l M d pc ls (.ref b :: st) 153 0 (ax_hm mem) 153 0 Q :=
  ax_callV (as := []) hM hl hd hp hs.1 (ax_hm_obj hs) hci rfl hst hdd (Nat.le_refl _) (Nat.le_refl _) hc (fun r h1 q => by obtain ⟨rfl, rfl⟩ := q; exact kk)
theorem ad_S0v {M' : ax_M} {idx d' : Nat} (hM : ax_MS M' 0) (hl : ax_LK M.1.cls idx M') (hd : decode M.2.1 pc = .ok (.invokestatic idx, 3)) (hp : pc + 3 = pc') (hst : 2 * st.length ≤ 8) (hdd : d' + 1 ≤ d) (hc : AD G l d' M' [] mem none mem') (kk : AX G l M d pc' ls st 153 0 (ax_hm mem') 153 0 Q) : AX G l M d pc ls (st) 153 0 (ax_hm mem) 153 0 Q :=
  ax_callS (as := []) hM hl hd hp rfl hst hdd (Nat.le_refl _) (Nat.le_refl _) hc (fun r h1 q => by obtain ⟨rfl, rfl⟩ := q; exact kk)
theorem ad_V0v {M' : ax_M} {idx d' b ci : Nat} {q : List (Option Nat)} {T : u_T} {N : Nat} (hM : ax_MV M' 0) (hl : ax_LK M.1.cls idx M') (hd : decode M.2.1 pc = .ok (.invokevirtual idx, 3)) (hp : pc + 3 = pc') (hs : ax_is b (ax_sO ci q)) (hci : vwCl[ci]? = some (M'.1.cls, T, N)) (hst : 2 * st.length ≤ 8) (hdd : d' + 1 ≤ d) (hc : AD G l d' M' (.ref b :: []) mem none mem') (kk : AX G l M d pc' ls st 153 0 (ax_hm mem') 153 0 Q) : AX G l M d pc ls (.ref b :: st) 153 0 (ax_hm mem) 153 0 Q :=
  ax_callV (as := []) hM hl hd hp hs.1 (ax_hm_obj hs) hci rfl hst hdd (Nat.le_refl _) (Nat.le_refl _) hc (fun r h1 q => by obtain ⟨rfl, rfl⟩ := q; exact kk)
theorem ad_S1 {M' : ax_M} {idx d' : Nat} {v0 : Value} {v : Value} (hM : ax_MS M' 1) (hl : ax_LK M.1.cls idx M') (hd : decode M.2.1 pc = .ok (.invokestatic idx, 3)) (hp : pc + 3 = pc') (hst : 2 * st.length ≤ 8) (hdd : d' + 1 ≤ d) (hc : AD G l d' M' [v0] mem (some v) mem') (kk : AX G l M d pc' ls (v :: st) 153 0 (ax_hm mem') 153 0 Q) : AX G l M d pc ls (v0 :: st) 153 0 (ax_hm mem) 153 0 Q :=
  ax_callS (as := [v0]) hM hl hd hp rfl hst hdd (Nat.le_refl _) (Nat.le_refl _) hc (fun r h1 q => by obtain ⟨rfl, rfl⟩ := q; exact kk)
theorem ad_V1 {M' : ax_M} {idx d' b ci : Nat} {q : List (Option Nat)} {T : u_T} {N : Nat} {v0 : Value} {v : Value} (hM : ax_MV M' 1) (hl : ax_LK M.1.cls idx M') (hd : decode M.2.1 pc = .ok (.invokevirtual idx, 3)) (hp : pc + 3 = pc') (hs : ax_is b (ax_sO ci q)) (hci : vwCl[ci]? = some (M'.1.cls, T, N)) (hst : 2 * st.length ≤ 8) (hdd : d' + 1 ≤ d) (hc : AD G l d' M' (.ref b :: [v0]) mem (some v) mem') (kk : AX G l M d pc' ls (v :: st) 153 0 (ax_hm mem') 153 0 Q) : AX G l M d pc ls (v0 :: .ref b :: st) 153 0 (ax_hm mem) 153 0 Q :=
  ax_callV (as := [v0]) hM hl hd hp hs.1 (ax_hm_obj hs) hci rfl hst hdd (Nat.le_refl _) (Nat.le_refl _) hc (fun r h1 q => by obtain ⟨rfl, rfl⟩ := q; exact kk)
theorem ad_S1v {M' : ax_M} {idx d' : Nat} {v0 : Value} (hM : ax_MS M' 1) (hl : ax_LK M.1.cls idx M') (hd : decode M.2.1 pc = .ok (.invokestatic idx, 3)) (hp : pc + 3 = pc') (hst : 2 * st.length ≤ 8) (hdd : d' + 1 ≤ d) (hc : AD G l d' M' [v0] mem none mem') (kk : AX G l M d pc' ls st 153 0 (ax_hm mem') 153 0 Q) : AX G l M d pc ls (v0 :: st) 153 0 (ax_hm mem) 153 0 Q :=
  ax_callS (as := [v0]) hM hl hd hp rfl hst hdd (Nat.le_refl _) (Nat.le_refl _) hc (fun r h1 q => by obtain ⟨rfl, rfl⟩ := q; exact kk)
theorem ad_V1v {M' : ax_M} {idx d' b ci : Nat} {q : List (Option Nat)} {T : u_T} {N : Nat} {v0 : Value} (hM : ax_MV M' 1) (hl : ax_LK M.1.cls idx M') (hd : decode M.2.1 pc = .ok (.invokevirtual idx, 3)) (hp : pc + 3 = pc') (hs : ax_is b (ax_sO ci q)) (hci : vwCl[ci]? = some (M'.1.cls, T, N)) (hst : 2 * st.length ≤ 8) (hdd : d' + 1 ≤ d) (hc : AD G l d' M' (.ref b :: [v0]) mem none mem') (kk : AX G l M d pc' ls st 153 0 (ax_hm mem') 153 0 Q) : AX G l M d pc ls (v0 :: .ref b :: st) 153 0 (ax_hm mem) 153 0 Q :=
  ax_callV (as := [v0]) hM hl hd hp hs.1 (ax_hm_obj hs) hci rfl hst hdd (Nat.le_refl _) (Nat.le_refl _) hc (fun r h1 q => by obtain ⟨rfl, rfl⟩ := q; exact kk)
theorem ad_S2 {M' : ax_M} {idx d' : Nat} {v0 v1 : Value} {v : Value} (hM : ax_MS M' 2) (hl : ax_LK M.1.cls idx M') (hd : decode M.2.1 pc = .ok (.invokestatic idx, 3)) (hp : pc + 3 = pc') (hst : 2 * st.length ≤ 8) (hdd : d' + 1 ≤ d) (hc : AD G l d' M' [v0, v1] mem (some v) mem') (kk : AX G l M d pc' ls (v :: st) 153 0 (ax_hm mem') 153 0 Q) : AX G l M d pc ls (v1 :: v0 :: st) 153 0 (ax_hm mem) 153 0 Q :=
  ax_callS (as := [v0, v1]) hM hl hd hp rfl hst hdd (Nat.le_refl _) (Nat.le_refl _) hc (fun r h1 q => by obtain ⟨rfl, rfl⟩ := q; exact kk)
theorem ad_V2 {M' : ax_M} {idx d' b ci : Nat} {q : List (Option Nat)} {T : u_T} {N : Nat} {v0 v1 : Value} {v : Value} (hM : ax_MV M' 2) (hl : ax_LK M.1.cls idx M') (hd : decode M.2.1 pc = .ok (.invokevirtual idx, 3)) (hp : pc + 3 = pc') (hs : ax_is b (ax_sO ci q)) (hci : vwCl[ci]? = some (M'.1.cls, T, N)) (hst : 2 * st.length ≤ 8) (hdd : d' + 1 ≤ d) (hc : AD G l d' M' (.ref b :: [v0, v1]) mem (some v) mem') (kk : AX G l M d pc' ls (v :: st) 153 0 (ax_hm mem') 153 0 Q) : AX G l M d pc ls (v1 :: v0 :: .ref b :: st) 153 0 (ax_hm mem) 153 0 Q :=
  ax_callV (as := [v0, v1]) hM hl hd hp hs.1 (ax_hm_obj hs) hci rfl hst hdd (Nat.le_refl _) (Nat.le_refl _) hc (fun r h1 q => by obtain ⟨rfl, rfl⟩ := q; exact kk)
theorem ad_S2v {M' : ax_M} {idx d' : Nat} {v0 v1 : Value} (hM : ax_MS M' 2) (hl : ax_LK M.1.cls idx M') (hd : decode M.2.1 pc = .ok (.invokestatic idx, 3)) (hp : pc + 3 = pc') (hst : 2 * st.length ≤ 8) (hdd : d' + 1 ≤ d) (hc : AD G l d' M' [v0, v1] mem none mem') (kk : AX G l M d pc' ls st 153 0 (ax_hm mem') 153 0 Q) : AX G l M d pc ls (v1 :: v0 :: st) 153 0 (ax_hm mem) 153 0 Q :=
  ax_callS (as := [v0, v1]) hM hl hd hp rfl hst hdd (Nat.le_refl _) (Nat.le_refl _) hc (fun r h1 q => by obtain ⟨rfl, rfl⟩ := q; exact kk)
theorem ad_V2v {M' : ax_M} {idx d' b ci : Nat} {q : List (Option Nat)} {T : u_T} {N : Nat} {v0 v1 : Value} (hM : ax_MV M' 2) (hl : ax_LK M.1.cls idx M') (hd : decode M.2.1 pc = .ok (.invokevirtual idx, 3)) (hp : pc + 3 = pc') (hs : ax_is b (ax_sO ci q)) (hci : vwCl[ci]? = some (M'.1.cls, T, N)) (hst : 2 * st.length ≤ 8) (hdd : d' + 1 ≤ d) (hc : AD G l d' M' (.ref b :: [v0, v1]) mem none mem') (kk : AX G l M d pc' ls st 153 0 (ax_hm mem') 153 0 Q) : AX G l M d pc ls (v1 :: v0 :: .ref b :: st) 153 0 (ax_hm mem) 153 0 Q :=
  ax_callV (as := [v0, v1]) hM hl hd hp hs.1 (ax_hm_obj hs) hci rfl hst hdd (Nat.le_refl _) (Nat.le_refl _) hc (fun r h1 q => by obtain ⟨rfl, rfl⟩ := q; exact kk)
theorem ad_S3 {M' : ax_M} {idx d' : Nat} {v0 v1 v2 : Value} {v : Value} (hM : ax_MS M' 3) (hl : ax_LK M.1.cls idx M') (hd : decode M.2.1 pc = .ok (.invokestatic idx, 3)) (hp : pc + 3 = pc') (hst : 2 * st.length ≤ 8) (hdd : d' + 1 ≤ d) (hc : AD G l d' M' [v0, v1, v2] mem (some v) mem') (kk : AX G l M d pc' ls (v :: st) 153 0 (ax_hm mem') 153 0 Q) : AX G l M d pc ls (v2 :: v1 :: v0 :: st) 153 0 (ax_hm mem) 153 0 Q :=
  ax_callS (as := [v0, v1, v2]) hM hl hd hp rfl hst hdd (Nat.le_refl _) (Nat.le_refl _) hc (fun r h1 q => by obtain ⟨rfl, rfl⟩ := q; exact kk)
theorem ad_V3 {M' : ax_M} {idx d' b ci : Nat} {q : List (Option Nat)} {T : u_T} {N : Nat} {v0 v1 v2 : Value} {v : Value} (hM : ax_MV M' 3) (hl : ax_LK M.1.cls idx M') (hd : decode M.2.1 pc = .ok (.invokevirtual idx, 3)) (hp : pc + 3 = pc') (hs : ax_is b (ax_sO ci q)) (hci : vwCl[ci]? = some (M'.1.cls, T, N)) (hst : 2 * st.length ≤ 8) (hdd : d' + 1 ≤ d) (hc : AD G l d' M' (.ref b :: [v0, v1, v2]) mem (some v) mem') (kk : AX G l M d pc' ls (v :: st) 153 0 (ax_hm mem') 153 0 Q) : AX G l M d pc ls (v2 :: v1 :: v0 :: .ref b :: st) 153 0 (ax_hm mem) 153 0 Q :=
  ax_callV (as := [v0, v1, v2]) hM hl hd hp hs.1 (ax_hm_obj hs) hci rfl hst hdd (Nat.le_refl _) (Nat.le_refl _) hc (fun r h1 q => by obtain ⟨rfl, rfl⟩ := q; exact kk)
theorem ad_S3v {M' : ax_M} {idx d' : Nat} {v0 v1 v2 : Value} (hM : ax_MS M' 3) (hl : ax_LK M.1.cls idx M') (hd : decode M.2.1 pc = .ok (.invokestatic idx, 3)) (hp : pc + 3 = pc') (hst : 2 * st.length ≤ 8) (hdd : d' + 1 ≤ d) (hc : AD G l d' M' [v0, v1, v2] mem none mem') (kk : AX G l M d pc' ls st 153 0 (ax_hm mem') 153 0 Q) : AX G l M d pc ls (v2 :: v1 :: v0 :: st) 153 0 (ax_hm mem) 153 0 Q :=
  ax_callS (as := [v0, v1, v2]) hM hl hd hp rfl hst hdd (Nat.le_refl _) (Nat.le_refl _) hc (fun r h1 q => by obtain ⟨rfl, rfl⟩ := q; exact kk)
theorem ad_V3v {M' : ax_M} {idx d' b ci : Nat} {q : List (Option Nat)} {T : u_T} {N : Nat} {v0 v1 v2 : Value} (hM : ax_MV M' 3) (hl : ax_LK M.1.cls idx M') (hd : decode M.2.1 pc = .ok (.invokevirtual idx, 3)) (hp : pc + 3 = pc') (hs : ax_is b (ax_sO ci q)) (hci : vwCl[ci]? = some (M'.1.cls, T, N)) (hst : 2 * st.length ≤ 8) (hdd : d' + 1 ≤ d) (hc : AD G l d' M' (.ref b :: [v0, v1, v2]) mem none mem') (kk : AX G l M d pc' ls st 153 0 (ax_hm mem') 153 0 Q) : AX G l M d pc ls (v2 :: v1 :: v0 :: .ref b :: st) 153 0 (ax_hm mem) 153 0 Q :=
  ax_callV (as := [v0, v1, v2]) hM hl hd hp hs.1 (ax_hm_obj hs) hci rfl hst hdd (Nat.le_refl _) (Nat.le_refl _) hc (fun r h1 q => by obtain ⟨rfl, rfl⟩ := q; exact kk)
theorem ad_S4 {M' : ax_M} {idx d' : Nat} {v0 v1 v2 v3 : Value} {v : Value} (hM : ax_MS M' 4) (hl : ax_LK M.1.cls idx M') (hd : decode M.2.1 pc = .ok (.invokestatic idx, 3)) (hp : pc + 3 = pc') (hst : 2 * st.length ≤ 8) (hdd : d' + 1 ≤ d) (hc : AD G l d' M' [v0, v1, v2, v3] mem (some v) mem') (kk : AX G l M d pc' ls (v :: st) 153 0 (ax_hm mem') 153 0 Q) : AX G l M d pc ls (v3 :: v2 :: v1 :: v0 :: st) 153 0 (ax_hm mem) 153 0 Q :=
  ax_callS (as := [v0, v1, v2, v3]) hM hl hd hp rfl hst hdd (Nat.le_refl _) (Nat.le_refl _) hc (fun r h1 q => by obtain ⟨rfl, rfl⟩ := q; exact kk)
theorem ad_V4 {M' : ax_M} {idx d' b ci : Nat} {q : List (Option Nat)} {T : u_T} {N : Nat} {v0 v1 v2 v3 : Value} {v : Value} (hM : ax_MV M' 4) (hl : ax_LK M.1.cls idx M') (hd : decode M.2.1 pc = .ok (.invokevirtual idx, 3)) (hp : pc + 3 = pc') (hs : ax_is b (ax_sO ci q)) (hci : vwCl[ci]? = some (M'.1.cls, T, N)) (hst : 2 * st.length ≤ 8) (hdd : d' + 1 ≤ d) (hc : AD G l d' M' (.ref b :: [v0, v1, v2, v3]) mem (some v) mem') (kk : AX G l M d pc' ls (v :: st) 153 0 (ax_hm mem') 153 0 Q) : AX G l M d pc ls (v3 :: v2 :: v1 :: v0 :: .ref b :: st) 153 0 (ax_hm mem) 153 0 Q :=
  ax_callV (as := [v0, v1, v2, v3]) hM hl hd hp hs.1 (ax_hm_obj hs) hci rfl hst hdd (Nat.le_refl _) (Nat.le_refl _) hc (fun r h1 q => by obtain ⟨rfl, rfl⟩ := q; exact kk)
theorem ad_S4v {M' : ax_M} {idx d' : Nat} {v0 v1 v2 v3 : Value} (hM : ax_MS M' 4) (hl : ax_LK M.1.cls idx M') (hd : decode M.2.1 pc = .ok (.invokestatic idx, 3)) (hp : pc + 3 = pc') (hst : 2 * st.length ≤ 8) (hdd : d' + 1 ≤ d) (hc : AD G l d' M' [v0, v1, v2, v3] mem none mem') (kk : AX G l M d pc' ls st 153 0 (ax_hm mem') 153 0 Q) : AX G l M d pc ls (v3 :: v2 :: v1 :: v0 :: st) 153 0 (ax_hm mem) 153 0 Q :=
  ax_callS (as := [v0, v1, v2, v3]) hM hl hd hp rfl hst hdd (Nat.le_refl _) (Nat.le_refl _) hc (fun r h1 q => by obtain ⟨rfl, rfl⟩ := q; exact kk)
theorem ad_V4v {M' : ax_M} {idx d' b ci : Nat} {q : List (Option Nat)} {T : u_T} {N : Nat} {v0 v1 v2 v3 : Value} (hM : ax_MV M' 4) (hl : ax_LK M.1.cls idx M') (hd : decode M.2.1 pc = .ok (.invokevirtual idx, 3)) (hp : pc + 3 = pc') (hs : ax_is b (ax_sO ci q)) (hci : vwCl[ci]? = some (M'.1.cls, T, N)) (hst : 2 * st.length ≤ 8) (hdd : d' + 1 ≤ d) (hc : AD G l d' M' (.ref b :: [v0, v1, v2, v3]) mem none mem') (kk : AX G l M d pc' ls st 153 0 (ax_hm mem') 153 0 Q) : AX G l M d pc ls (v3 :: v2 :: v1 :: v0 :: .ref b :: st) 153 0 (ax_hm mem) 153 0 Q :=
  ax_callV (as := [v0, v1, v2, v3]) hM hl hd hp hs.1 (ax_hm_obj hs) hci rfl hst hdd (Nat.le_refl _) (Nat.le_refl _) hc (fun r h1 q => by obtain ⟨rfl, rfl⟩ := q; exact kk)
theorem ad_S5 {M' : ax_M} {idx d' : Nat} {v0 v1 v2 v3 v4 : Value} {v : Value} (hM : ax_MS M' 5) (hl : ax_LK M.1.cls idx M') (hd : decode M.2.1 pc = .ok (.invokestatic idx, 3)) (hp : pc + 3 = pc') (hst : 2 * st.length ≤ 8) (hdd : d' + 1 ≤ d) (hc : AD G l d' M' [v0, v1, v2, v3, v4] mem (some v) mem') (kk : AX G l M d pc' ls (v :: st) 153 0 (ax_hm mem') 153 0 Q) : AX G l M d pc ls (v4 :: v3 :: v2 :: v1 :: v0 :: st) 153 0 (ax_hm mem) 153 0 Q :=
  ax_callS (as := [v0, v1, v2, v3, v4]) hM hl hd hp rfl hst hdd (Nat.le_refl _) (Nat.le_refl _) hc (fun r h1 q => by obtain ⟨rfl, rfl⟩ := q; exact kk)
theorem ad_V5 {M' : ax_M} {idx d' b ci : Nat} {q : List (Option Nat)} {T : u_T} {N : Nat} {v0 v1 v2 v3 v4 : Value} {v : Value} (hM : ax_MV M' 5) (hl : ax_LK M.1.cls idx M') (hd : decode M.2.1 pc = .ok (.invokevirtual idx, 3)) (hp : pc + 3 = pc') (hs : ax_is b (ax_sO ci q)) (hci : vwCl[ci]? = some (M'.1.cls, T, N)) (hst : 2 * st.length ≤ 8) (hdd : d' + 1 ≤ d) (hc : AD G l d' M' (.ref b :: [v0, v1, v2, v3, v4]) mem (some v) mem') (kk : AX G l M d pc' ls (v :: st) 153 0 (ax_hm mem') 153 0 Q) : AX G l M d pc ls (v4 :: v3 :: v2 :: v1 :: v0 :: .ref b :: st) 153 0 (ax_hm mem) 153 0 Q :=
  ax_callV (as := [v0, v1, v2, v3, v4]) hM hl hd hp hs.1 (ax_hm_obj hs) hci rfl hst hdd (Nat.le_refl _) (Nat.le_refl _) hc (fun r h1 q => by obtain ⟨rfl, rfl⟩ := q; exact kk)
theorem ad_S5v {M' : ax_M} {idx d' : Nat} {v0 v1 v2 v3 v4 : Value} (hM : ax_MS M' 5) (hl : ax_LK M.1.cls idx M') (hd : decode M.2.1 pc = .ok (.invokestatic idx, 3)) (hp : pc + 3 = pc') (hst : 2 * st.length ≤ 8) (hdd : d' + 1 ≤ d) (hc : AD G l d' M' [v0, v1, v2, v3, v4] mem none mem') (kk : AX G l M d pc' ls st 153 0 (ax_hm mem') 153 0 Q) : AX G l M d pc ls (v4 :: v3 :: v2 :: v1 :: v0 :: st) 153 0 (ax_hm mem) 153 0 Q :=
  ax_callS (as := [v0, v1, v2, v3, v4]) hM hl hd hp rfl hst hdd (Nat.le_refl _) (Nat.le_refl _) hc (fun r h1 q => by obtain ⟨rfl, rfl⟩ := q; exact kk)
theorem ad_V5v {M' : ax_M} {idx d' b ci : Nat} {q : List (Option Nat)} {T : u_T} {N : Nat} {v0 v1 v2 v3 v4 : Value} (hM : ax_MV M' 5) (hl : ax_LK M.1.cls idx M') (hd : decode M.2.1 pc = .ok (.invokevirtual idx, 3)) (hp : pc + 3 = pc') (hs : ax_is b (ax_sO ci q)) (hci : vwCl[ci]? = some (M'.1.cls, T, N)) (hst : 2 * st.length ≤ 8) (hdd : d' + 1 ≤ d) (hc : AD G l d' M' (.ref b :: [v0, v1, v2, v3, v4]) mem none mem') (kk : AX G l M d pc' ls st 153 0 (ax_hm mem') 153 0 Q) : AX G l M d pc ls (v4 :: v3 :: v2 :: v1 :: v0 :: .ref b :: st) 153 0 (ax_hm mem) 153 0 Q :=
  ax_callV (as := [v0, v1, v2, v3, v4]) hM hl hd hp hs.1 (ax_hm_obj hs) hci rfl hst hdd (Nat.le_refl _) (Nat.le_refl _) hc (fun r h1 q => by obtain ⟨rfl, rfl⟩ := q; exact kk)
end AXD
/-- loops: n rounds from j on; with an early end -/
def ax_it {α : Type} (f : Nat → α → α) : Nat → Nat → α → α
  | 0, _, s => s
  | n + 1, j, s => ax_it f n (j + 1) (f j s)
def ax_lp {α β : Type} (f : Nat → α → β ⊕ α) : Nat → Nat → α → β ⊕ α
  | 0, _, s => .inr s
  | n + 1, j, s => match f j s with
    | .inl b => .inl b
    | .inr s' => ax_lp f n (j + 1) s'
theorem cl_lt {x : Int32} {j : Nat} (h : j < x.toNatClampNeg) : nI j < x := by
  have h1 : x.toNatClampNeg = x.toInt.toNat := rfl
  have h2 := Int32.toInt_lt x
  rw [Int32.lt_iff_toInt_lt, nI_toInt (by omega)]
  omega
theorem cl_nle {x : Int32} {j : Nat} (h : j < x.toNatClampNeg) : ¬ x ≤ nI j := fun q => by
  have h1 := cl_lt h
  rw [Int32.lt_iff_toInt_lt] at h1
  rw [Int32.le_iff_toInt_le] at q
  omega
theorem cl_ge {x : Int32} {j : Nat} (h : j = x.toNatClampNeg) : x ≤ nI j := by
  have h1 : x.toNatClampNeg = x.toInt.toNat := rfl
  have h2 := Int32.toInt_lt x
  rw [Int32.le_iff_toInt_le, nI_toInt (by omega)]
  omega
theorem cl_nlt {x : Int32} {j : Nat} (h : j = x.toNatClampNeg) : ¬ nI j < x := fun q => by
  have h1 := cl_ge h
  rw [Int32.lt_iff_toInt_lt] at q
  rw [Int32.le_iff_toInt_le] at h1
  omega
theorem cl_inc (j : Nat) : nI j + Int32.ofInt 1 = nI (j + 1) := nI_1 j
theorem ax_fg0 {G : ax_G} {l : Launch} {M : ax_M} {d pc : Nat} {v : Value} {r st : List Value} {n z : Nat} {h : ax_H} {n' z' : Nat} {Q : Option Value → ax_H → Prop} (k : AX G l M d pc (.float 0 :: r) st n z h n' z' Q) : AX G l M d pc (v :: r) st n z h n' z' Q := by
  intro p e s m args below meth c R H locs cells slots la C hd hlo hn hz hc hs hR hS hL
  refine k p e s m args below meth c R H locs cells slots la C hd hlo hn hz hc hs hR hS ⟨hL.1, hL.2.1, fun i w hi hw => ?_⟩
  by_cases hij : i = 0
  · subst hij
    cases (show some (Value.float 0) = some w from hi)
    simp [ax_nf] at hw
  · refine hL.2.2 i w ?_ hw
    rw [← hi]
    show (v :: r)[i]? = (.float 0 :: r)[i]?
    rw [show (v :: r) = (.float 0 :: r).set 0 v from rfl, List.getElem?_set_ne (fun e => hij e.symm)]
theorem ax_fg1 {G : ax_G} {l : Launch} {M : ax_M} {d pc : Nat} {a0 : Value} {v : Value} {r st : List Value} {n z : Nat} {h : ax_H} {n' z' : Nat} {Q : Option Value → ax_H → Prop} (k : AX G l M d pc (a0 :: .float 0 :: r) st n z h n' z' Q) : AX G l M d pc (a0 :: v :: r) st n z h n' z' Q := by
  intro p e s m args below meth c R H locs cells slots la C hd hlo hn hz hc hs hR hS hL
  refine k p e s m args below meth c R H locs cells slots la C hd hlo hn hz hc hs hR hS ⟨hL.1, hL.2.1, fun i w hi hw => ?_⟩
  by_cases hij : i = 1
  · subst hij
    cases (show some (Value.float 0) = some w from hi)
    simp [ax_nf] at hw
  · refine hL.2.2 i w ?_ hw
    rw [← hi]
    show (a0 :: v :: r)[i]? = (a0 :: .float 0 :: r)[i]?
    rw [show (a0 :: v :: r) = (a0 :: .float 0 :: r).set 1 v from rfl, List.getElem?_set_ne (fun e => hij e.symm)]
theorem ax_fg2 {G : ax_G} {l : Launch} {M : ax_M} {d pc : Nat} {a0 a1 : Value} {v : Value} {r st : List Value} {n z : Nat} {h : ax_H} {n' z' : Nat} {Q : Option Value → ax_H → Prop} (k : AX G l M d pc (a0 :: a1 :: .float 0 :: r) st n z h n' z' Q) : AX G l M d pc (a0 :: a1 :: v :: r) st n z h n' z' Q := by
  intro p e s m args below meth c R H locs cells slots la C hd hlo hn hz hc hs hR hS hL
  refine k p e s m args below meth c R H locs cells slots la C hd hlo hn hz hc hs hR hS ⟨hL.1, hL.2.1, fun i w hi hw => ?_⟩
  by_cases hij : i = 2
  · subst hij
    cases (show some (Value.float 0) = some w from hi)
    simp [ax_nf] at hw
  · refine hL.2.2 i w ?_ hw
    rw [← hi]
    show (a0 :: a1 :: v :: r)[i]? = (a0 :: a1 :: .float 0 :: r)[i]?
    rw [show (a0 :: a1 :: v :: r) = (a0 :: a1 :: .float 0 :: r).set 2 v from rfl, List.getElem?_set_ne (fun e => hij e.symm)]
theorem ax_fg3 {G : ax_G} {l : Launch} {M : ax_M} {d pc : Nat} {a0 a1 a2 : Value} {v : Value} {r st : List Value} {n z : Nat} {h : ax_H} {n' z' : Nat} {Q : Option Value → ax_H → Prop} (k : AX G l M d pc (a0 :: a1 :: a2 :: .float 0 :: r) st n z h n' z' Q) : AX G l M d pc (a0 :: a1 :: a2 :: v :: r) st n z h n' z' Q := by
  intro p e s m args below meth c R H locs cells slots la C hd hlo hn hz hc hs hR hS hL
  refine k p e s m args below meth c R H locs cells slots la C hd hlo hn hz hc hs hR hS ⟨hL.1, hL.2.1, fun i w hi hw => ?_⟩
  by_cases hij : i = 3
  · subst hij
    cases (show some (Value.float 0) = some w from hi)
    simp [ax_nf] at hw
  · refine hL.2.2 i w ?_ hw
    rw [← hi]
    show (a0 :: a1 :: a2 :: v :: r)[i]? = (a0 :: a1 :: a2 :: .float 0 :: r)[i]?
    rw [show (a0 :: a1 :: a2 :: v :: r) = (a0 :: a1 :: a2 :: .float 0 :: r).set 3 v from rfl, List.getElem?_set_ne (fun e => hij e.symm)]
theorem ax_fg4 {G : ax_G} {l : Launch} {M : ax_M} {d pc : Nat} {a0 a1 a2 a3 : Value} {v : Value} {r st : List Value} {n z : Nat} {h : ax_H} {n' z' : Nat} {Q : Option Value → ax_H → Prop} (k : AX G l M d pc (a0 :: a1 :: a2 :: a3 :: .float 0 :: r) st n z h n' z' Q) : AX G l M d pc (a0 :: a1 :: a2 :: a3 :: v :: r) st n z h n' z' Q := by
  intro p e s m args below meth c R H locs cells slots la C hd hlo hn hz hc hs hR hS hL
  refine k p e s m args below meth c R H locs cells slots la C hd hlo hn hz hc hs hR hS ⟨hL.1, hL.2.1, fun i w hi hw => ?_⟩
  by_cases hij : i = 4
  · subst hij
    cases (show some (Value.float 0) = some w from hi)
    simp [ax_nf] at hw
  · refine hL.2.2 i w ?_ hw
    rw [← hi]
    show (a0 :: a1 :: a2 :: a3 :: v :: r)[i]? = (a0 :: a1 :: a2 :: a3 :: .float 0 :: r)[i]?
    rw [show (a0 :: a1 :: a2 :: a3 :: v :: r) = (a0 :: a1 :: a2 :: a3 :: .float 0 :: r).set 4 v from rfl, List.getElem?_set_ne (fun e => hij e.symm)]
theorem ax_fg5 {G : ax_G} {l : Launch} {M : ax_M} {d pc : Nat} {a0 a1 a2 a3 a4 : Value} {v : Value} {r st : List Value} {n z : Nat} {h : ax_H} {n' z' : Nat} {Q : Option Value → ax_H → Prop} (k : AX G l M d pc (a0 :: a1 :: a2 :: a3 :: a4 :: .float 0 :: r) st n z h n' z' Q) : AX G l M d pc (a0 :: a1 :: a2 :: a3 :: a4 :: v :: r) st n z h n' z' Q := by
  intro p e s m args below meth c R H locs cells slots la C hd hlo hn hz hc hs hR hS hL
  refine k p e s m args below meth c R H locs cells slots la C hd hlo hn hz hc hs hR hS ⟨hL.1, hL.2.1, fun i w hi hw => ?_⟩
  by_cases hij : i = 5
  · subst hij
    cases (show some (Value.float 0) = some w from hi)
    simp [ax_nf] at hw
  · refine hL.2.2 i w ?_ hw
    rw [← hi]
    show (a0 :: a1 :: a2 :: a3 :: a4 :: v :: r)[i]? = (a0 :: a1 :: a2 :: a3 :: a4 :: .float 0 :: r)[i]?
    rw [show (a0 :: a1 :: a2 :: a3 :: a4 :: v :: r) = (a0 :: a1 :: a2 :: a3 :: a4 :: .float 0 :: r).set 5 v from rfl, List.getElem?_set_ne (fun e => hij e.symm)]
theorem ax_fg6 {G : ax_G} {l : Launch} {M : ax_M} {d pc : Nat} {a0 a1 a2 a3 a4 a5 : Value} {v : Value} {r st : List Value} {n z : Nat} {h : ax_H} {n' z' : Nat} {Q : Option Value → ax_H → Prop} (k : AX G l M d pc (a0 :: a1 :: a2 :: a3 :: a4 :: a5 :: .float 0 :: r) st n z h n' z' Q) : AX G l M d pc (a0 :: a1 :: a2 :: a3 :: a4 :: a5 :: v :: r) st n z h n' z' Q := by
  intro p e s m args below meth c R H locs cells slots la C hd hlo hn hz hc hs hR hS hL
  refine k p e s m args below meth c R H locs cells slots la C hd hlo hn hz hc hs hR hS ⟨hL.1, hL.2.1, fun i w hi hw => ?_⟩
  by_cases hij : i = 6
  · subst hij
    cases (show some (Value.float 0) = some w from hi)
    simp [ax_nf] at hw
  · refine hL.2.2 i w ?_ hw
    rw [← hi]
    show (a0 :: a1 :: a2 :: a3 :: a4 :: a5 :: v :: r)[i]? = (a0 :: a1 :: a2 :: a3 :: a4 :: a5 :: .float 0 :: r)[i]?
    rw [show (a0 :: a1 :: a2 :: a3 :: a4 :: a5 :: v :: r) = (a0 :: a1 :: a2 :: a3 :: a4 :: a5 :: .float 0 :: r).set 6 v from rfl, List.getElem?_set_ne (fun e => hij e.symm)]
theorem ax_fg7 {G : ax_G} {l : Launch} {M : ax_M} {d pc : Nat} {a0 a1 a2 a3 a4 a5 a6 : Value} {v : Value} {r st : List Value} {n z : Nat} {h : ax_H} {n' z' : Nat} {Q : Option Value → ax_H → Prop} (k : AX G l M d pc (a0 :: a1 :: a2 :: a3 :: a4 :: a5 :: a6 :: .float 0 :: r) st n z h n' z' Q) : AX G l M d pc (a0 :: a1 :: a2 :: a3 :: a4 :: a5 :: a6 :: v :: r) st n z h n' z' Q := by
  intro p e s m args below meth c R H locs cells slots la C hd hlo hn hz hc hs hR hS hL
  refine k p e s m args below meth c R H locs cells slots la C hd hlo hn hz hc hs hR hS ⟨hL.1, hL.2.1, fun i w hi hw => ?_⟩
  by_cases hij : i = 7
  · subst hij
    cases (show some (Value.float 0) = some w from hi)
    simp [ax_nf] at hw
  · refine hL.2.2 i w ?_ hw
    rw [← hi]
    show (a0 :: a1 :: a2 :: a3 :: a4 :: a5 :: a6 :: v :: r)[i]? = (a0 :: a1 :: a2 :: a3 :: a4 :: a5 :: a6 :: .float 0 :: r)[i]?
    rw [show (a0 :: a1 :: a2 :: a3 :: a4 :: a5 :: a6 :: v :: r) = (a0 :: a1 :: a2 :: a3 :: a4 :: a5 :: a6 :: .float 0 :: r).set 7 v from rfl, List.getElem?_set_ne (fun e => hij e.symm)]
theorem ax_fg8 {G : ax_G} {l : Launch} {M : ax_M} {d pc : Nat} {a0 a1 a2 a3 a4 a5 a6 a7 : Value} {v : Value} {r st : List Value} {n z : Nat} {h : ax_H} {n' z' : Nat} {Q : Option Value → ax_H → Prop} (k : AX G l M d pc (a0 :: a1 :: a2 :: a3 :: a4 :: a5 :: a6 :: a7 :: .float 0 :: r) st n z h n' z' Q) : AX G l M d pc (a0 :: a1 :: a2 :: a3 :: a4 :: a5 :: a6 :: a7 :: v :: r) st n z h n' z' Q := by
  intro p e s m args below meth c R H locs cells slots la C hd hlo hn hz hc hs hR hS hL
  refine k p e s m args below meth c R H locs cells slots la C hd hlo hn hz hc hs hR hS ⟨hL.1, hL.2.1, fun i w hi hw => ?_⟩
  by_cases hij : i = 8
  · subst hij
    cases (show some (Value.float 0) = some w from hi)
    simp [ax_nf] at hw
  · refine hL.2.2 i w ?_ hw
    rw [← hi]
    show (a0 :: a1 :: a2 :: a3 :: a4 :: a5 :: a6 :: a7 :: v :: r)[i]? = (a0 :: a1 :: a2 :: a3 :: a4 :: a5 :: a6 :: a7 :: .float 0 :: r)[i]?
    rw [show (a0 :: a1 :: a2 :: a3 :: a4 :: a5 :: a6 :: a7 :: v :: r) = (a0 :: a1 :: a2 :: a3 :: a4 :: a5 :: a6 :: a7 :: .float 0 :: r).set 8 v from rfl, List.getElem?_set_ne (fun e => hij e.symm)]
theorem ax_fg9 {G : ax_G} {l : Launch} {M : ax_M} {d pc : Nat} {a0 a1 a2 a3 a4 a5 a6 a7 a8 : Value} {v : Value} {r st : List Value} {n z : Nat} {h : ax_H} {n' z' : Nat} {Q : Option Value → ax_H → Prop} (k : AX G l M d pc (a0 :: a1 :: a2 :: a3 :: a4 :: a5 :: a6 :: a7 :: a8 :: .float 0 :: r) st n z h n' z' Q) : AX G l M d pc (a0 :: a1 :: a2 :: a3 :: a4 :: a5 :: a6 :: a7 :: a8 :: v :: r) st n z h n' z' Q := by
  intro p e s m args below meth c R H locs cells slots la C hd hlo hn hz hc hs hR hS hL
  refine k p e s m args below meth c R H locs cells slots la C hd hlo hn hz hc hs hR hS ⟨hL.1, hL.2.1, fun i w hi hw => ?_⟩
  by_cases hij : i = 9
  · subst hij
    cases (show some (Value.float 0) = some w from hi)
    simp [ax_nf] at hw
  · refine hL.2.2 i w ?_ hw
    rw [← hi]
    show (a0 :: a1 :: a2 :: a3 :: a4 :: a5 :: a6 :: a7 :: a8 :: v :: r)[i]? = (a0 :: a1 :: a2 :: a3 :: a4 :: a5 :: a6 :: a7 :: a8 :: .float 0 :: r)[i]?
    rw [show (a0 :: a1 :: a2 :: a3 :: a4 :: a5 :: a6 :: a7 :: a8 :: v :: r) = (a0 :: a1 :: a2 :: a3 :: a4 :: a5 :: a6 :: a7 :: a8 :: .float 0 :: r).set 9 v from rfl, List.getElem?_set_ne (fun e => hij e.symm)]
theorem ax_fg10 {G : ax_G} {l : Launch} {M : ax_M} {d pc : Nat} {a0 a1 a2 a3 a4 a5 a6 a7 a8 a9 : Value} {v : Value} {r st : List Value} {n z : Nat} {h : ax_H} {n' z' : Nat} {Q : Option Value → ax_H → Prop} (k : AX G l M d pc (a0 :: a1 :: a2 :: a3 :: a4 :: a5 :: a6 :: a7 :: a8 :: a9 :: .float 0 :: r) st n z h n' z' Q) : AX G l M d pc (a0 :: a1 :: a2 :: a3 :: a4 :: a5 :: a6 :: a7 :: a8 :: a9 :: v :: r) st n z h n' z' Q := by
  intro p e s m args below meth c R H locs cells slots la C hd hlo hn hz hc hs hR hS hL
  refine k p e s m args below meth c R H locs cells slots la C hd hlo hn hz hc hs hR hS ⟨hL.1, hL.2.1, fun i w hi hw => ?_⟩
  by_cases hij : i = 10
  · subst hij
    cases (show some (Value.float 0) = some w from hi)
    simp [ax_nf] at hw
  · refine hL.2.2 i w ?_ hw
    rw [← hi]
    show (a0 :: a1 :: a2 :: a3 :: a4 :: a5 :: a6 :: a7 :: a8 :: a9 :: v :: r)[i]? = (a0 :: a1 :: a2 :: a3 :: a4 :: a5 :: a6 :: a7 :: a8 :: a9 :: .float 0 :: r)[i]?
    rw [show (a0 :: a1 :: a2 :: a3 :: a4 :: a5 :: a6 :: a7 :: a8 :: a9 :: v :: r) = (a0 :: a1 :: a2 :: a3 :: a4 :: a5 :: a6 :: a7 :: a8 :: a9 :: .float 0 :: r).set 10 v from rfl, List.getElem?_set_ne (fun e => hij e.symm)]
theorem ax_fg11 {G : ax_G} {l : Launch} {M : ax_M} {d pc : Nat} {a0 a1 a2 a3 a4 a5 a6 a7 a8 a9 a10 : Value} {v : Value} {r st : List Value} {n z : Nat} {h : ax_H} {n' z' : Nat} {Q : Option Value → ax_H → Prop} (k : AX G l M d pc (a0 :: a1 :: a2 :: a3 :: a4 :: a5 :: a6 :: a7 :: a8 :: a9 :: a10 :: .float 0 :: r) st n z h n' z' Q) : AX G l M d pc (a0 :: a1 :: a2 :: a3 :: a4 :: a5 :: a6 :: a7 :: a8 :: a9 :: a10 :: v :: r) st n z h n' z' Q := by
  intro p e s m args below meth c R H locs cells slots la C hd hlo hn hz hc hs hR hS hL
  refine k p e s m args below meth c R H locs cells slots la C hd hlo hn hz hc hs hR hS ⟨hL.1, hL.2.1, fun i w hi hw => ?_⟩
  by_cases hij : i = 11
  · subst hij
    cases (show some (Value.float 0) = some w from hi)
    simp [ax_nf] at hw
  · refine hL.2.2 i w ?_ hw
    rw [← hi]
    show (a0 :: a1 :: a2 :: a3 :: a4 :: a5 :: a6 :: a7 :: a8 :: a9 :: a10 :: v :: r)[i]? = (a0 :: a1 :: a2 :: a3 :: a4 :: a5 :: a6 :: a7 :: a8 :: a9 :: a10 :: .float 0 :: r)[i]?
    rw [show (a0 :: a1 :: a2 :: a3 :: a4 :: a5 :: a6 :: a7 :: a8 :: a9 :: a10 :: v :: r) = (a0 :: a1 :: a2 :: a3 :: a4 :: a5 :: a6 :: a7 :: a8 :: a9 :: a10 :: .float 0 :: r).set 11 v from rfl, List.getElem?_set_ne (fun e => hij e.symm)]
theorem ax_fg12 {G : ax_G} {l : Launch} {M : ax_M} {d pc : Nat} {a0 a1 a2 a3 a4 a5 a6 a7 a8 a9 a10 a11 : Value} {v : Value} {r st : List Value} {n z : Nat} {h : ax_H} {n' z' : Nat} {Q : Option Value → ax_H → Prop} (k : AX G l M d pc (a0 :: a1 :: a2 :: a3 :: a4 :: a5 :: a6 :: a7 :: a8 :: a9 :: a10 :: a11 :: .float 0 :: r) st n z h n' z' Q) : AX G l M d pc (a0 :: a1 :: a2 :: a3 :: a4 :: a5 :: a6 :: a7 :: a8 :: a9 :: a10 :: a11 :: v :: r) st n z h n' z' Q := by
  intro p e s m args below meth c R H locs cells slots la C hd hlo hn hz hc hs hR hS hL
  refine k p e s m args below meth c R H locs cells slots la C hd hlo hn hz hc hs hR hS ⟨hL.1, hL.2.1, fun i w hi hw => ?_⟩
  by_cases hij : i = 12
  · subst hij
    cases (show some (Value.float 0) = some w from hi)
    simp [ax_nf] at hw
  · refine hL.2.2 i w ?_ hw
    rw [← hi]
    show (a0 :: a1 :: a2 :: a3 :: a4 :: a5 :: a6 :: a7 :: a8 :: a9 :: a10 :: a11 :: v :: r)[i]? = (a0 :: a1 :: a2 :: a3 :: a4 :: a5 :: a6 :: a7 :: a8 :: a9 :: a10 :: a11 :: .float 0 :: r)[i]?
    rw [show (a0 :: a1 :: a2 :: a3 :: a4 :: a5 :: a6 :: a7 :: a8 :: a9 :: a10 :: a11 :: v :: r) = (a0 :: a1 :: a2 :: a3 :: a4 :: a5 :: a6 :: a7 :: a8 :: a9 :: a10 :: a11 :: .float 0 :: r).set 12 v from rfl, List.getElem?_set_ne (fun e => hij e.symm)]
theorem ax_fg13 {G : ax_G} {l : Launch} {M : ax_M} {d pc : Nat} {a0 a1 a2 a3 a4 a5 a6 a7 a8 a9 a10 a11 a12 : Value} {v : Value} {r st : List Value} {n z : Nat} {h : ax_H} {n' z' : Nat} {Q : Option Value → ax_H → Prop} (k : AX G l M d pc (a0 :: a1 :: a2 :: a3 :: a4 :: a5 :: a6 :: a7 :: a8 :: a9 :: a10 :: a11 :: a12 :: .float 0 :: r) st n z h n' z' Q) : AX G l M d pc (a0 :: a1 :: a2 :: a3 :: a4 :: a5 :: a6 :: a7 :: a8 :: a9 :: a10 :: a11 :: a12 :: v :: r) st n z h n' z' Q := by
  intro p e s m args below meth c R H locs cells slots la C hd hlo hn hz hc hs hR hS hL
  refine k p e s m args below meth c R H locs cells slots la C hd hlo hn hz hc hs hR hS ⟨hL.1, hL.2.1, fun i w hi hw => ?_⟩
  by_cases hij : i = 13
  · subst hij
    cases (show some (Value.float 0) = some w from hi)
    simp [ax_nf] at hw
  · refine hL.2.2 i w ?_ hw
    rw [← hi]
    show (a0 :: a1 :: a2 :: a3 :: a4 :: a5 :: a6 :: a7 :: a8 :: a9 :: a10 :: a11 :: a12 :: v :: r)[i]? = (a0 :: a1 :: a2 :: a3 :: a4 :: a5 :: a6 :: a7 :: a8 :: a9 :: a10 :: a11 :: a12 :: .float 0 :: r)[i]?
    rw [show (a0 :: a1 :: a2 :: a3 :: a4 :: a5 :: a6 :: a7 :: a8 :: a9 :: a10 :: a11 :: a12 :: v :: r) = (a0 :: a1 :: a2 :: a3 :: a4 :: a5 :: a6 :: a7 :: a8 :: a9 :: a10 :: a11 :: a12 :: .float 0 :: r).set 13 v from rfl, List.getElem?_set_ne (fun e => hij e.symm)]
def ax_isI (g : Nat) : Prop := ax_is g (ax_sO 2 [some (g + 1), none, none]) ∧ ax_isP (g + 1)
theorem ax_isI.o {g : Nat} (h : ax_isI g) : ax_is g (ax_sO 2 [some (g + 1), none, none]) := h.1
theorem ax_isI.p {g : Nat} (h : ax_isI g) : ax_isP (g + 1) := h.2
theorem isI124 : ax_isI 124 := ⟨is124, isP125⟩
theorem isI130 : ax_isI 130 := ⟨is130, isP131⟩
end
section
theorem lmX4_33 : Cond.methodLink RX4 33 yJ9_min_7cf53 ∈ lw_tbl := (tb_at (i := 410) (by decide +kernel))
theorem lmX2_50 : Cond.methodLink RX2 50 yJ9_min_7cf53 ∈ lw_tbl := (tb_at (i := 667) (by decide +kernel))
theorem lmX2_55 : Cond.methodLink RX2 55 yJ9_max_7cf53 ∈ lw_tbl := (tb_at (i := 668) (by decide +kernel))
section AXMM
variable {G : ax_G} {l : Launch} {M : ax_M} {d pc pc' : Nat} {ls st : List Value} {n z : Nat} {h : ax_H} {n' z' : Nat} {Q : Option Value → ax_H → Prop}
theorem ax_mmax {idx : Nat} {x y : Int32} (hl : Cond.methodLink M.1.cls idx yJ9_max_7cf53 ∈ lw_tbl) (hd : decode M.2.1 pc = .ok (.invokestatic idx, 3)) (hp : pc + 3 = pc') (hst : 2 * st.length ≤ 8) (hdd : 1 ≤ d) (kk : AX G l M d pc' ls (.int (if x < y then y else x) :: st) n z h n' z' Q) : AX G l M d pc ls (.int y :: .int x :: st) n z h n' z' Q := by
  subst hp
  intro p e s m args below meth c R H locs cells slots la C0 hd' hlo hn' hz hcl hsl hR hS hL
  obtain ⟨hx, hb, hml, -, hown, -, -, hK⟩ := id C0
  have hsum := ax_sum (G := G) st
  exact va_mmax hx hb (hml.trans hL.1.symm) hown (hK.1.use hl rfl) (hK.1.use ksJ9_max_7cf53.2 rfl) (hK.1.use ksJ9_max_7cf53.1.2.1 rfl) (hK.1.use ksJ9_max_7cf53.1.1 rfl) (by omega) (by omega) (by omega) (by omega) hd (kk p e s m args below meth c R H locs cells slots la C0 hd' hlo hn' hz hcl hsl hR hS hL)
theorem ax_mmin {idx : Nat} {x y : Int32} (hl : Cond.methodLink M.1.cls idx yJ9_min_7cf53 ∈ lw_tbl) (hd : decode M.2.1 pc = .ok (.invokestatic idx, 3)) (hp : pc + 3 = pc') (hst : 2 * st.length ≤ 8) (hdd : 1 ≤ d) (kk : AX G l M d pc' ls (.int (if y < x then y else x) :: st) n z h n' z' Q) : AX G l M d pc ls (.int y :: .int x :: st) n z h n' z' Q := by
  subst hp
  intro p e s m args below meth c R H locs cells slots la C0 hd' hlo hn' hz hcl hsl hR hS hL
  obtain ⟨hx, hb, hml, -, hown, -, -, hK⟩ := id C0
  have hsum := ax_sum (G := G) st
  exact va_mmin hx hb (hml.trans hL.1.symm) hown (hK.1.use hl rfl) (hK.1.use ksJ9_min_7cf53.2 rfl) (hK.1.use ksJ9_min_7cf53.1.2.1 rfl) (hK.1.use ksJ9_min_7cf53.1.1 rfl) (by omega) (by omega) (by omega) (by omega) hd (kk p e s m args below meth c R H locs cells slots la C0 hd' hlo hn' hz hcl hsl hR hS hL)
end AXMM
end
section
/-! ===== the class, written by program: a function over the memory and a contract for each method; leaves first ===== -/
def F_X9_isWithin (mem : ax_Me) (p0 : Int32) (p1 : Int32) (p2 : Int32) : Int32 :=
  (if p0 < p1 then 0 else (if p2 < p0 then 0 else 1))
set_option maxRecDepth 20000 in
theorem s_X9_isWithin {G : ax_G} {l : Launch} (mem : ax_Me) (p0 : Int32) (p1 : Int32) (p2 : Int32)  : AD G l 0 mX9_isWithin [.int p0, .int p1, .int p2] mem (some (.int (F_X9_isWithin mem p0 p1 p2))) mem := by
  refine ax_start (ls := [.int p0, .int p1, .int p2]) (u := 0) (by decide +kernel) (Nat.le_of_ble_eq_true rfl) (Nat.le_refl _) (Nat.le_refl _) rfl ?_
  refine ax_iload_n (j := 0) dX9_isWithin_0 rfl rfl rfl ?_
  refine ax_iload_n (j := 1) dX9_isWithin_1 rfl rfl rfl ?_
  refine ax_icmp_lt (tgt := 14) dX9_isWithin_2 (by decide) rfl (fun c2 => ?_) (fun c2 => ?_)
  · refine ax_iconst (v := 0) dX9_isWithin_14 (by decide) rfl ?_
    exact ax_zreturn rfl dX9_isWithin_15 rfl ⟨by simp only [F_X9_isWithin, if_pos c2], rfl⟩
  · refine ax_iload_n (j := 0) dX9_isWithin_5 rfl rfl rfl ?_
    refine ax_iload_n (j := 2) dX9_isWithin_6 rfl rfl rfl ?_
    refine ax_icmp_gt (tgt := 14) dX9_isWithin_7 (by decide) rfl (fun c7 => ?_) (fun c7 => ?_)
    · refine ax_iconst (v := 0) dX9_isWithin_14 (by decide) rfl ?_
      exact ax_zreturn rfl dX9_isWithin_15 rfl ⟨by simp only [F_X9_isWithin, if_neg c2, if_pos c7], rfl⟩
    · refine ax_iconst (v := 1) dX9_isWithin_10 (by decide) rfl ?_
      refine ax_goto (tgt := 15) dX9_isWithin_11 (by decide) ?_
      exact ax_zreturn rfl dX9_isWithin_15 rfl ⟨by simp only [F_X9_isWithin, if_neg c2, if_neg c7], rfl⟩

def F_X9_hasBit (mem : ax_Me) (p0 : Int32) (p1 : Int32) : Int32 :=
  (if (F_X9_isWithin mem p1 0 7) = 0 then 0 else (if ((p0 >>> (p1 &&& 31)) &&& 1) = 1 then 1 else 0))
set_option maxRecDepth 20000 in
theorem s_X9_hasBit {G : ax_G} {l : Launch} (mem : ax_Me) (p0 : Int32) (p1 : Int32)  : AD G l 1 mX9_hasBit [.int p0, .int p1] mem (some (.int (F_X9_hasBit mem p0 p1))) mem := by
  refine ax_start (ls := [.int p0, .int p1]) (u := 0) (by decide +kernel) (Nat.le_of_ble_eq_true rfl) (Nat.le_refl _) (Nat.le_refl _) rfl ?_
  refine ax_iload_n (j := 1) dX9_hasBit_0 rfl rfl rfl ?_
  refine ax_iconst (v := 0) dX9_hasBit_1 (by decide) rfl ?_
  refine ax_bipush (v := 7) dX9_hasBit_2 (by decide) rfl ?_
  refine ad_S3 ksX9_isWithin lkX9_64 dX9_hasBit_4 rfl (Nat.le_of_ble_eq_true rfl) (Nat.le_of_ble_eq_true rfl) (s_X9_isWithin _ _ _ _) ?_
  refine ax_if_eq (tgt := 23) dX9_hasBit_7 (by decide) rfl (fun c7 => ?_) (fun c7 => ?_)
  · refine ax_iconst (v := 0) dX9_hasBit_23 (by decide) rfl ?_
    exact ax_zreturn rfl dX9_hasBit_24 rfl ⟨by simp only [F_X9_hasBit, if_pos c7], rfl⟩
  · refine ax_iload_n (j := 0) dX9_hasBit_10 rfl rfl rfl ?_
    refine ax_iload_n (j := 1) dX9_hasBit_11 rfl rfl rfl ?_
    refine ax_ishr dX9_hasBit_12 rfl ?_
    refine ax_iconst (v := 1) dX9_hasBit_13 (by decide) rfl ?_
    refine ax_iand dX9_hasBit_14 rfl ?_
    refine ax_iconst (v := 1) dX9_hasBit_15 (by decide) rfl ?_
    refine ax_icmp_ne (tgt := 23) dX9_hasBit_16 (by decide) rfl (fun c16 => ?_) (fun c16 => ?_)
    · refine ax_iconst (v := 0) dX9_hasBit_23 (by decide) rfl ?_
      exact ax_zreturn rfl dX9_hasBit_24 rfl ⟨by simp only [F_X9_hasBit, if_neg c7, if_neg c16], rfl⟩
    · refine ax_iconst (v := 1) dX9_hasBit_19 (by decide) rfl ?_
      refine ax_goto (tgt := 24) dX9_hasBit_20 (by decide) ?_
      exact ax_zreturn rfl dX9_hasBit_24 rfl ⟨by simp only [F_X9_hasBit, if_neg c7, if_pos c16], rfl⟩

def F_J6_bitCount_0f7a4 (mem : ax_Me) (p0 : Int32) : Int32 :=
  ((((((((p0 - ((p0.toUInt32 >>> ((1 : Int32).toUInt32 &&& Int32.toUInt32 31)).toInt32 &&& (1431655765))) &&& (858993459)) + (((p0 - ((p0.toUInt32 >>> ((1 : Int32).toUInt32 &&& Int32.toUInt32 31)).toInt32 &&& (1431655765))).toUInt32 >>> ((2 : Int32).toUInt32 &&& Int32.toUInt32 31)).toInt32 &&& (858993459))) + ((((p0 - ((p0.toUInt32 >>> ((1 : Int32).toUInt32 &&& Int32.toUInt32 31)).toInt32 &&& (1431655765))) &&& (858993459)) + (((p0 - ((p0.toUInt32 >>> ((1 : Int32).toUInt32 &&& Int32.toUInt32 31)).toInt32 &&& (1431655765))).toUInt32 >>> ((2 : Int32).toUInt32 &&& Int32.toUInt32 31)).toInt32 &&& (858993459))).toUInt32 >>> ((4 : Int32).toUInt32 &&& Int32.toUInt32 31)).toInt32) &&& (252645135)) + ((((((p0 - ((p0.toUInt32 >>> ((1 : Int32).toUInt32 &&& Int32.toUInt32 31)).toInt32 &&& (1431655765))) &&& (858993459)) + (((p0 - ((p0.toUInt32 >>> ((1 : Int32).toUInt32 &&& Int32.toUInt32 31)).toInt32 &&& (1431655765))).toUInt32 >>> ((2 : Int32).toUInt32 &&& Int32.toUInt32 31)).toInt32 &&& (858993459))) + ((((p0 - ((p0.toUInt32 >>> ((1 : Int32).toUInt32 &&& Int32.toUInt32 31)).toInt32 &&& (1431655765))) &&& (858993459)) + (((p0 - ((p0.toUInt32 >>> ((1 : Int32).toUInt32 &&& Int32.toUInt32 31)).toInt32 &&& (1431655765))).toUInt32 >>> ((2 : Int32).toUInt32 &&& Int32.toUInt32 31)).toInt32 &&& (858993459))).toUInt32 >>> ((4 : Int32).toUInt32 &&& Int32.toUInt32 31)).toInt32) &&& (252645135)).toUInt32 >>> ((8 : Int32).toUInt32 &&& Int32.toUInt32 31)).toInt32) + (((((((p0 - ((p0.toUInt32 >>> ((1 : Int32).toUInt32 &&& Int32.toUInt32 31)).toInt32 &&& (1431655765))) &&& (858993459)) + (((p0 - ((p0.toUInt32 >>> ((1 : Int32).toUInt32 &&& Int32.toUInt32 31)).toInt32 &&& (1431655765))).toUInt32 >>> ((2 : Int32).toUInt32 &&& Int32.toUInt32 31)).toInt32 &&& (858993459))) + ((((p0 - ((p0.toUInt32 >>> ((1 : Int32).toUInt32 &&& Int32.toUInt32 31)).toInt32 &&& (1431655765))) &&& (858993459)) + (((p0 - ((p0.toUInt32 >>> ((1 : Int32).toUInt32 &&& Int32.toUInt32 31)).toInt32 &&& (1431655765))).toUInt32 >>> ((2 : Int32).toUInt32 &&& Int32.toUInt32 31)).toInt32 &&& (858993459))).toUInt32 >>> ((4 : Int32).toUInt32 &&& Int32.toUInt32 31)).toInt32) &&& (252645135)) + ((((((p0 - ((p0.toUInt32 >>> ((1 : Int32).toUInt32 &&& Int32.toUInt32 31)).toInt32 &&& (1431655765))) &&& (858993459)) + (((p0 - ((p0.toUInt32 >>> ((1 : Int32).toUInt32 &&& Int32.toUInt32 31)).toInt32 &&& (1431655765))).toUInt32 >>> ((2 : Int32).toUInt32 &&& Int32.toUInt32 31)).toInt32 &&& (858993459))) + ((((p0 - ((p0.toUInt32 >>> ((1 : Int32).toUInt32 &&& Int32.toUInt32 31)).toInt32 &&& (1431655765))) &&& (858993459)) + (((p0 - ((p0.toUInt32 >>> ((1 : Int32).toUInt32 &&& Int32.toUInt32 31)).toInt32 &&& (1431655765))).toUInt32 >>> ((2 : Int32).toUInt32 &&& Int32.toUInt32 31)).toInt32 &&& (858993459))).toUInt32 >>> ((4 : Int32).toUInt32 &&& Int32.toUInt32 31)).toInt32) &&& (252645135)).toUInt32 >>> ((8 : Int32).toUInt32 &&& Int32.toUInt32 31)).toInt32).toUInt32 >>> ((16 : Int32).toUInt32 &&& Int32.toUInt32 31)).toInt32) &&& 63)
set_option maxRecDepth 20000 in
theorem s_J6_bitCount_0f7a4 {G : ax_G} {l : Launch} (mem : ax_Me) (p0 : Int32)  : AD G l 0 mJ6_bitCount_0f7a4 [.int p0] mem (some (.int (F_J6_bitCount_0f7a4 mem p0))) mem := by
  refine ax_start (ls := [.int p0]) (u := 0) (by decide +kernel) (Nat.le_of_ble_eq_true rfl) (Nat.le_refl _) (Nat.le_refl _) rfl ?_
  refine ax_iload_n (j := 0) dJ6_bitCount_0f7a4_0 rfl rfl rfl ?_
  refine ax_iload_n (j := 0) dJ6_bitCount_0f7a4_1 rfl rfl rfl ?_
  refine ax_iconst (v := 1) dJ6_bitCount_0f7a4_2 (by decide) rfl ?_
  refine ax_iushr dJ6_bitCount_0f7a4_3 rfl ?_
  refine ax_ldcw dJ6_bitCount_0f7a4_4 cnJ6_265 rfl ?_
  refine ax_iand dJ6_bitCount_0f7a4_7 rfl ?_
  refine ax_isub dJ6_bitCount_0f7a4_8 rfl ?_
  refine ax_ist0 dJ6_bitCount_0f7a4_9 rfl rfl (Nat.le_of_ble_eq_true rfl) rfl ?_
  refine ax_iload_n (j := 0) dJ6_bitCount_0f7a4_10 rfl rfl rfl ?_
  refine ax_ldcw dJ6_bitCount_0f7a4_11 cnJ6_266 rfl ?_
  refine ax_iand dJ6_bitCount_0f7a4_14 rfl ?_
  refine ax_iload_n (j := 0) dJ6_bitCount_0f7a4_15 rfl rfl rfl ?_
  refine ax_iconst (v := 2) dJ6_bitCount_0f7a4_16 (by decide) rfl ?_
  refine ax_iushr dJ6_bitCount_0f7a4_17 rfl ?_
  refine ax_ldcw dJ6_bitCount_0f7a4_18 cnJ6_266 rfl ?_
  refine ax_iand dJ6_bitCount_0f7a4_21 rfl ?_
  refine ax_iadd dJ6_bitCount_0f7a4_22 rfl ?_
  refine ax_ist0 dJ6_bitCount_0f7a4_23 rfl rfl (Nat.le_of_ble_eq_true rfl) rfl ?_
  refine ax_iload_n (j := 0) dJ6_bitCount_0f7a4_24 rfl rfl rfl ?_
  refine ax_iload_n (j := 0) dJ6_bitCount_0f7a4_25 rfl rfl rfl ?_
  refine ax_iconst (v := 4) dJ6_bitCount_0f7a4_26 (by decide) rfl ?_
  refine ax_iushr dJ6_bitCount_0f7a4_27 rfl ?_
  refine ax_iadd dJ6_bitCount_0f7a4_28 rfl ?_
  refine ax_ldcw dJ6_bitCount_0f7a4_29 cnJ6_267 rfl ?_
  refine ax_iand dJ6_bitCount_0f7a4_32 rfl ?_
  refine ax_ist0 dJ6_bitCount_0f7a4_33 rfl rfl (Nat.le_of_ble_eq_true rfl) rfl ?_
  refine ax_iload_n (j := 0) dJ6_bitCount_0f7a4_34 rfl rfl rfl ?_
  refine ax_iload_n (j := 0) dJ6_bitCount_0f7a4_35 rfl rfl rfl ?_
  refine ax_bipush (v := 8) dJ6_bitCount_0f7a4_36 (by decide) rfl ?_
  refine ax_iushr dJ6_bitCount_0f7a4_38 rfl ?_
  refine ax_iadd dJ6_bitCount_0f7a4_39 rfl ?_
  refine ax_ist0 dJ6_bitCount_0f7a4_40 rfl rfl (Nat.le_of_ble_eq_true rfl) rfl ?_
  refine ax_iload_n (j := 0) dJ6_bitCount_0f7a4_41 rfl rfl rfl ?_
  refine ax_iload_n (j := 0) dJ6_bitCount_0f7a4_42 rfl rfl rfl ?_
  refine ax_bipush (v := 16) dJ6_bitCount_0f7a4_43 (by decide) rfl ?_
  refine ax_iushr dJ6_bitCount_0f7a4_45 rfl ?_
  refine ax_iadd dJ6_bitCount_0f7a4_46 rfl ?_
  refine ax_ist0 dJ6_bitCount_0f7a4_47 rfl rfl (Nat.le_of_ble_eq_true rfl) rfl ?_
  refine ax_iload_n (j := 0) dJ6_bitCount_0f7a4_48 rfl rfl rfl ?_
  refine ax_bipush (v := 63) dJ6_bitCount_0f7a4_49 (by decide) rfl ?_
  refine ax_iand dJ6_bitCount_0f7a4_51 rfl ?_
  exact ax_ireturn rfl dJ6_bitCount_0f7a4_52 ⟨by simp only [F_J6_bitCount_0f7a4], rfl⟩

def F_X9_refusal (mem : ax_Me) (p0 : Int32) (p1 : Int32) (p2 : Int32) (p3 : Int32) : Int32 :=
  (if p0 = 0 then (-1000000001) else (if p1 = 0 then (-1000000002) else (if p2 = 0 then (-1000000003) else (if p3 = 0 then (-1000000004) else 0))))
set_option maxRecDepth 20000 in
theorem s_X9_refusal {G : ax_G} {l : Launch} (mem : ax_Me) (p0 : Int32) (p1 : Int32) (p2 : Int32) (p3 : Int32)  : AD G l 0 mX9_refusal [.int p0, .int p1, .int p2, .int p3] mem (some (.int (F_X9_refusal mem p0 p1 p2 p3))) mem := by
  refine ax_start (ls := [.int p0, .int p1, .int p2, .int p3]) (u := 0) (by decide +kernel) (Nat.le_of_ble_eq_true rfl) (Nat.le_refl _) (Nat.le_refl _) rfl ?_
  refine ax_iload_n (j := 0) dX9_refusal_0 rfl rfl rfl ?_
  refine ax_if_ne (tgt := 7) dX9_refusal_1 (by decide) rfl (fun c1 => ?_) (fun c1 => ?_)
  · refine ax_iload_n (j := 1) dX9_refusal_7 rfl rfl rfl ?_
    refine ax_if_ne (tgt := 14) dX9_refusal_8 (by decide) rfl (fun c8 => ?_) (fun c8 => ?_)
    · refine ax_iload_n (j := 2) dX9_refusal_14 rfl rfl rfl ?_
      refine ax_if_ne (tgt := 21) dX9_refusal_15 (by decide) rfl (fun c15 => ?_) (fun c15 => ?_)
      · refine ax_iload_n (j := 3) dX9_refusal_21 rfl rfl rfl ?_
        refine ax_if_eq (tgt := 29) dX9_refusal_22 (by decide) rfl (fun c22 => ?_) (fun c22 => ?_)
        · refine ax_ldcw dX9_refusal_29 cnX9_290 rfl ?_
          exact ax_ireturn rfl dX9_refusal_32 ⟨by simp only [F_X9_refusal, if_neg c1, if_neg c8, if_neg c15, if_pos c22], rfl⟩
        · refine ax_iconst (v := 0) dX9_refusal_25 (by decide) rfl ?_
          refine ax_goto (tgt := 32) dX9_refusal_26 (by decide) ?_
          exact ax_ireturn rfl dX9_refusal_32 ⟨by simp only [F_X9_refusal, if_neg c1, if_neg c8, if_neg c15, if_neg c22], rfl⟩
      · refine ax_ldc dX9_refusal_18 cnX9_200 rfl ?_
        exact ax_ireturn rfl dX9_refusal_20 ⟨by simp only [F_X9_refusal, if_neg c1, if_neg c8, if_pos c15], rfl⟩
    · refine ax_ldc dX9_refusal_11 cnX9_123 rfl ?_
      exact ax_ireturn rfl dX9_refusal_13 ⟨by simp only [F_X9_refusal, if_neg c1, if_pos c8], rfl⟩
  · refine ax_ldc dX9_refusal_4 cnX9_128 rfl ?_
    exact ax_ireturn rfl dX9_refusal_6 ⟨by simp only [F_X9_refusal, if_pos c1], rfl⟩

def F_X9_isLongEnough (mem : ax_Me) (p0 : Int32) : Int32 :=
  (if (F_J6_bitCount_0f7a4 mem p0) < 2 then 0 else 1)
set_option maxRecDepth 20000 in
theorem s_X9_isLongEnough {G : ax_G} {l : Launch} (mem : ax_Me) (p0 : Int32)  : AD G l 1 mX9_isLongEnough [.int p0] mem (some (.int (F_X9_isLongEnough mem p0))) mem := by
  refine ax_start (ls := [.int p0]) (u := 0) (by decide +kernel) (Nat.le_of_ble_eq_true rfl) (Nat.le_refl _) (Nat.le_refl _) rfl ?_
  refine ax_iload_n (j := 0) dX9_isLongEnough_0 rfl rfl rfl ?_
  refine ad_S1 ksJ6_bitCount_0f7a4 lkX9_291 dX9_isLongEnough_1 rfl (Nat.le_of_ble_eq_true rfl) (Nat.le_of_ble_eq_true rfl) (s_J6_bitCount_0f7a4 _ _) ?_
  refine ax_iconst (v := 2) dX9_isLongEnough_4 (by decide) rfl ?_
  refine ax_icmp_lt (tgt := 12) dX9_isLongEnough_5 (by decide) rfl (fun c5 => ?_) (fun c5 => ?_)
  · refine ax_iconst (v := 0) dX9_isLongEnough_12 (by decide) rfl ?_
    exact ax_zreturn rfl dX9_isLongEnough_13 rfl ⟨by simp only [F_X9_isLongEnough, if_pos c5], rfl⟩
  · refine ax_iconst (v := 1) dX9_isLongEnough_8 (by decide) rfl ?_
    refine ax_goto (tgt := 13) dX9_isLongEnough_9 (by decide) ?_
    exact ax_zreturn rfl dX9_isLongEnough_13 rfl ⟨by simp only [F_X9_isLongEnough, if_neg c5], rfl⟩

def F_X2_apart (mem : ax_Me) (p0 : Int32) (p1 : Int32) : Int32 :=
  (F_J6_bitCount_0f7a4 mem (p0 ^^^ p1))
set_option maxRecDepth 20000 in
theorem s_X2_apart {G : ax_G} {l : Launch} (mem : ax_Me) (p0 : Int32) (p1 : Int32)  : AD G l 1 mX2_apart [.int p0, .int p1] mem (some (.int (F_X2_apart mem p0 p1))) mem := by
  refine ax_start (ls := [.int p0, .int p1]) (u := 0) (by decide +kernel) (Nat.le_of_ble_eq_true rfl) (Nat.le_refl _) (Nat.le_refl _) rfl ?_
  refine ax_iload_n (j := 0) dX2_apart_0 rfl rfl rfl ?_
  refine ax_iload_n (j := 1) dX2_apart_1 rfl rfl rfl ?_
  refine ax_ixor dX2_apart_2 rfl ?_
  refine ad_S1 ksJ6_bitCount_0f7a4 lkX2_9 dX2_apart_3 rfl (Nat.le_of_ble_eq_true rfl) (Nat.le_of_ble_eq_true rfl) (s_J6_bitCount_0f7a4 _ _) ?_
  exact ax_ireturn rfl dX2_apart_6 ⟨by simp only [F_X2_apart], rfl⟩

theorem within_z {mem : ax_Me} {x a b : Int32} : narrow .boolean (.int (F_X9_isWithin mem x a b)) = .int (F_X9_isWithin mem x a b) := by
  unfold F_X9_isWithin
  split
  · rfl
  · split <;> rfl
def F_X9_isRowLength (mem : ax_Me) (p0 : Int32) : Int32 :=
  (F_X9_isWithin mem p0 2 8)
set_option maxRecDepth 20000 in
theorem s_X9_isRowLength {G : ax_G} {l : Launch} (mem : ax_Me) (p0 : Int32)  : AD G l 1 mX9_isRowLength [.int p0] mem (some (.int (F_X9_isRowLength mem p0))) mem := by
  refine ax_start (ls := [.int p0]) (u := 0) (by decide +kernel) (Nat.le_of_ble_eq_true rfl) (Nat.le_refl _) (Nat.le_refl _) rfl ?_
  refine ax_iload_n (j := 0) dX9_isRowLength_0 rfl rfl rfl ?_
  refine ax_iconst (v := 2) dX9_isRowLength_1 (by decide) rfl ?_
  refine ax_bipush (v := 8) dX9_isRowLength_2 (by decide) rfl ?_
  refine ad_S3 ksX9_isWithin lkX9_64 dX9_isRowLength_4 rfl (Nat.le_of_ble_eq_true rfl) (Nat.le_of_ble_eq_true rfl) (s_X9_isWithin _ _ _ _) ?_
  exact ax_zreturn rfl dX9_isRowLength_7 within_z ⟨by simp only [F_X9_isRowLength], rfl⟩

def F_X8_isFigure (mem : ax_Me) (p0 : Int32) : Int32 :=
  (F_X9_isWithin mem p0 48 57)
set_option maxRecDepth 20000 in
theorem s_X8_isFigure {G : ax_G} {l : Launch} (mem : ax_Me) (p0 : Int32)  : AD G l 1 mX8_isFigure [.int p0] mem (some (.int (F_X8_isFigure mem p0))) mem := by
  refine ax_start (ls := [.int p0]) (u := 0) (by decide +kernel) (Nat.le_of_ble_eq_true rfl) (Nat.le_refl _) (Nat.le_refl _) rfl ?_
  refine ax_iload_n (j := 0) dX8_isFigure_0 rfl rfl rfl ?_
  refine ax_bipush (v := 48) dX8_isFigure_1 (by decide) rfl ?_
  refine ax_bipush (v := 57) dX8_isFigure_3 (by decide) rfl ?_
  refine ad_S3 ksX9_isWithin lkX8_22 dX8_isFigure_5 rfl (Nat.le_of_ble_eq_true rfl) (Nat.le_of_ble_eq_true rfl) (s_X9_isWithin _ _ _ _) ?_
  exact ax_zreturn rfl dX8_isFigure_8 within_z ⟨by simp only [F_X8_isFigure], rfl⟩

def F_X5_has (mem : ax_Me) (a : Nat) (p0 : Int32) : Int32 :=
  (if p0 < 0 then 0 else (if (mem a 4) ≤ p0 then 0 else (if 8 ≤ p0 then 0 else 1)))
set_option maxRecDepth 20000 in
theorem s_X5_has {G : ax_G} {l : Launch} (mem : ax_Me) {a : Nat} (hP : ax_isP a) (p0 : Int32)  : AD G l 0 mX5_has [.ref a, .int p0] mem (some (.int (F_X5_has mem a p0))) mem := by
  refine ax_start (ls := [.ref a, .int p0]) (u := 0) (by decide +kernel) (Nat.le_of_ble_eq_true rfl) (Nat.le_refl _) (Nat.le_refl _) rfl ?_
  refine ax_iload_n (j := 1) dX5_has_0 rfl rfl rfl ?_
  refine ax_if_lt (tgt := 22) dX5_has_1 (by decide) rfl (fun c1 => ?_) (fun c1 => ?_)
  · refine ax_iconst (v := 0) dX5_has_22 (by decide) rfl ?_
    exact ax_zreturn rfl dX5_has_23 rfl ⟨by simp only [F_X5_has, if_pos c1], rfl⟩
  · refine ax_iload_n (j := 1) dX5_has_4 rfl rfl rfl ?_
    refine ax_aload_n (j := 0) dX5_has_5 rfl rfl rfl ?_
    refine am_getI flX5_30 dX5_has_6 rfl hP.o rfl ?_
    refine ax_icmp_ge (tgt := 22) dX5_has_9 (by decide) rfl (fun c9 => ?_) (fun c9 => ?_)
    · refine ax_iconst (v := 0) dX5_has_22 (by decide) rfl ?_
      exact ax_zreturn rfl dX5_has_23 rfl ⟨by simp only [F_X5_has, if_neg c1, if_pos c9], rfl⟩
    · refine ax_iload_n (j := 1) dX5_has_12 rfl rfl rfl ?_
      refine ax_bipush (v := 8) dX5_has_13 (by decide) rfl ?_
      refine ax_icmp_ge (tgt := 22) dX5_has_15 (by decide) rfl (fun c15 => ?_) (fun c15 => ?_)
      · refine ax_iconst (v := 0) dX5_has_22 (by decide) rfl ?_
        exact ax_zreturn rfl dX5_has_23 rfl ⟨by simp only [F_X5_has, if_neg c1, if_neg c9, if_pos c15], rfl⟩
      · refine ax_iconst (v := 1) dX5_has_18 (by decide) rfl ?_
        refine ax_goto (tgt := 23) dX5_has_19 (by decide) ?_
        exact ax_zreturn rfl dX5_has_23 rfl ⟨by simp only [F_X5_has, if_neg c1, if_neg c9, if_neg c15], rfl⟩

theorem has_of {mem : ax_Me} {a : Nat} {p : Int32} (h : ¬ F_X5_has mem a p = 0) : ¬ p < 0 ∧ ¬ mem a 4 ≤ p ∧ ¬ 8 ≤ p := by
  unfold F_X5_has at h
  refine ⟨fun q => h (by rw [if_pos q]), fun q => ?_, fun q => ?_⟩
  · by_cases q0 : p < 0
    · exact h (by rw [if_pos q0])
    · exact h (by rw [if_neg q0, if_pos q])
  · by_cases q0 : p < 0
    · exact h (by rw [if_pos q0])
    · by_cases q1 : mem a 4 ≤ p
      · exact h (by rw [if_neg q0, if_pos q1])
      · exact h (by rw [if_neg q0, if_neg q1, if_pos q])
theorem has_in {mem : ax_Me} {a : Nat} {p : Int32} (h : ¬ F_X5_has mem a p = 0) : vp_in p 8 := by
  obtain ⟨h1, h2, h3⟩ := has_of h
  rw [vp_in_iff]
  rw [Int32.lt_iff_toInt_lt] at h1
  rw [Int32.le_iff_toInt_le] at h3
  have e0 : (0 : Int32).toInt = 0 := rfl
  have e8 : (8 : Int32).toInt = 8 := rfl
  omega
def F_X5_isPair (mem : ax_Me) (a : Nat) (p0 : Int32) (p1 : Int32) : Int32 :=
  (if (F_X5_has mem a p0) = 0 then 0 else (if (F_X5_has mem a p1) = 0 then 0 else (if p0 = p1 then 0 else 1)))
set_option maxRecDepth 20000 in
theorem s_X5_isPair {G : ax_G} {l : Launch} (mem : ax_Me) {a : Nat} (hP : ax_isP a) (p0 : Int32) (p1 : Int32)  : AD G l 1 mX5_isPair [.ref a, .int p0, .int p1] mem (some (.int (F_X5_isPair mem a p0 p1))) mem := by
  refine ax_start (ls := [.ref a, .int p0, .int p1]) (u := 0) (by decide +kernel) (Nat.le_of_ble_eq_true rfl) (Nat.le_refl _) (Nat.le_refl _) rfl ?_
  refine ax_aload_n (j := 0) dX5_isPair_0 rfl rfl rfl ?_
  refine ax_iload_n (j := 1) dX5_isPair_1 rfl rfl rfl ?_
  refine ad_V1 ksX5_has lkX5_47 dX5_isPair_2 rfl hP.o rfl (Nat.le_of_ble_eq_true rfl) (Nat.le_of_ble_eq_true rfl) (s_X5_has _ hP _) ?_
  refine ax_if_eq (tgt := 25) dX5_isPair_5 (by decide) rfl (fun c5 => ?_) (fun c5 => ?_)
  · refine ax_iconst (v := 0) dX5_isPair_25 (by decide) rfl ?_
    exact ax_zreturn rfl dX5_isPair_26 rfl ⟨by simp only [F_X5_isPair, if_pos c5], rfl⟩
  · refine ax_aload_n (j := 0) dX5_isPair_8 rfl rfl rfl ?_
    refine ax_iload_n (j := 2) dX5_isPair_9 rfl rfl rfl ?_
    refine ad_V1 ksX5_has lkX5_47 dX5_isPair_10 rfl hP.o rfl (Nat.le_of_ble_eq_true rfl) (Nat.le_of_ble_eq_true rfl) (s_X5_has _ hP _) ?_
    refine ax_if_eq (tgt := 25) dX5_isPair_13 (by decide) rfl (fun c13 => ?_) (fun c13 => ?_)
    · refine ax_iconst (v := 0) dX5_isPair_25 (by decide) rfl ?_
      exact ax_zreturn rfl dX5_isPair_26 rfl ⟨by simp only [F_X5_isPair, if_neg c5, if_pos c13], rfl⟩
    · refine ax_iload_n (j := 1) dX5_isPair_16 rfl rfl rfl ?_
      refine ax_iload_n (j := 2) dX5_isPair_17 rfl rfl rfl ?_
      refine ax_icmp_eq (tgt := 25) dX5_isPair_18 (by decide) rfl (fun c18 => ?_) (fun c18 => ?_)
      · refine ax_iconst (v := 0) dX5_isPair_25 (by decide) rfl ?_
        exact ax_zreturn rfl dX5_isPair_26 rfl ⟨by simp only [F_X5_isPair, if_neg c5, if_neg c13, if_pos c18], rfl⟩
      · refine ax_iconst (v := 1) dX5_isPair_21 (by decide) rfl ?_
        refine ax_goto (tgt := 26) dX5_isPair_22 (by decide) ?_
        exact ax_zreturn rfl dX5_isPair_26 rfl ⟨by simp only [F_X5_isPair, if_neg c5, if_neg c13, if_neg c18], rfl⟩

def F_X5_everybody (mem : ax_Me) (a : Nat) : Int32 :=
  ((1 <<< ((mem a 4) &&& 31)) - 1)
set_option maxRecDepth 20000 in
theorem s_X5_everybody {G : ax_G} {l : Launch} (mem : ax_Me) {a : Nat} (hP : ax_isP a)  : AD G l 0 mX5_everybody [.ref a] mem (some (.int (F_X5_everybody mem a))) mem := by
  refine ax_start (ls := [.ref a]) (u := 0) (by decide +kernel) (Nat.le_of_ble_eq_true rfl) (Nat.le_refl _) (Nat.le_refl _) rfl ?_
  refine ax_iconst (v := 1) dX5_everybody_0 (by decide) rfl ?_
  refine ax_aload_n (j := 0) dX5_everybody_1 rfl rfl rfl ?_
  refine am_getI flX5_30 dX5_everybody_2 rfl hP.o rfl ?_
  refine ax_ishl dX5_everybody_5 rfl ?_
  refine ax_iconst (v := 1) dX5_everybody_6 (by decide) rfl ?_
  refine ax_isub dX5_everybody_7 rfl ?_
  exact ax_ireturn rfl dX5_everybody_8 ⟨by simp only [F_X5_everybody], rfl⟩

def F_X5_holdsAll (mem : ax_Me) (a : Nat) (p0 : Int32) : Int32 :=
  (if (p0 &&& ((F_X5_everybody mem a) ^^^ (-1))) = 0 then 1 else 0)
set_option maxRecDepth 20000 in
theorem s_X5_holdsAll {G : ax_G} {l : Launch} (mem : ax_Me) {a : Nat} (hP : ax_isP a) (p0 : Int32)  : AD G l 1 mX5_holdsAll [.ref a, .int p0] mem (some (.int (F_X5_holdsAll mem a p0))) mem := by
  refine ax_start (ls := [.ref a, .int p0]) (u := 0) (by decide +kernel) (Nat.le_of_ble_eq_true rfl) (Nat.le_refl _) (Nat.le_refl _) rfl ?_
  refine ax_iload_n (j := 1) dX5_holdsAll_0 rfl rfl rfl ?_
  refine ax_aload_n (j := 0) dX5_holdsAll_1 rfl rfl rfl ?_
  refine ad_V0 ksX5_everybody lkX5_51 dX5_holdsAll_2 rfl hP.o rfl (Nat.le_of_ble_eq_true rfl) (Nat.le_of_ble_eq_true rfl) (s_X5_everybody _ hP) ?_
  refine ax_iconst (v := (-1)) dX5_holdsAll_5 (by decide) rfl ?_
  refine ax_ixor dX5_holdsAll_6 rfl ?_
  refine ax_iand dX5_holdsAll_7 rfl ?_
  refine ax_if_ne (tgt := 15) dX5_holdsAll_8 (by decide) rfl (fun c8 => ?_) (fun c8 => ?_)
  · refine ax_iconst (v := 0) dX5_holdsAll_15 (by decide) rfl ?_
    exact ax_zreturn rfl dX5_holdsAll_16 rfl ⟨by simp only [F_X5_holdsAll, if_neg c8], rfl⟩
  · refine ax_iconst (v := 1) dX5_holdsAll_11 (by decide) rfl ?_
    refine ax_goto (tgt := 16) dX5_holdsAll_12 (by decide) ?_
    exact ax_zreturn rfl dX5_holdsAll_16 rfl ⟨by simp only [F_X5_holdsAll, if_pos c8], rfl⟩

theorem pair_of {mem : ax_Me} {a : Nat} {w p : Int32} (h : ¬ F_X5_isPair mem a w p = 0) : (¬ F_X5_has mem a w = 0) ∧ (¬ F_X5_has mem a p = 0) ∧ ¬ w = p := by
  unfold F_X5_isPair at h
  refine ⟨fun q => h (by rw [if_pos q]), fun q => ?_, fun q => ?_⟩
  · by_cases q0 : F_X5_has mem a w = 0
    · exact h (by rw [if_pos q0])
    · exact h (by rw [if_neg q0, if_pos q])
  · by_cases q0 : F_X5_has mem a w = 0
    · exact h (by rw [if_pos q0])
    · by_cases q1 : F_X5_has mem a p = 0
      · exact h (by rw [if_neg q0, if_pos q1])
      · exact h (by rw [if_neg q0, if_neg q1, if_pos q])
theorem in8_8 {w p : Int32} (hw : vp_in w 8) (hp : vp_in p 8) : vp_in (w * 8 + p) 64 ∧ (w * 8 + p).toNatClampNeg = w.toNatClampNeg * 8 + p.toNatClampNeg := by
  obtain ⟨i, hi, rfl⟩ := vp_in_of hw (by decide)
  obtain ⟨j, hj, rfl⟩ := vp_in_of hp (by decide)
  have e : nI i * 8 + nI j = nI (i * 8 + j) := by
    rw [show (8 : Int32) = nI 8 from rfl, pk_mul, nI_add]
  rw [e, nI_clamp (by omega), nI_clamp (by omega), nI_clamp (by omega)]
  exact ⟨vp_in_nI (by omega) (by omega), rfl⟩
theorem pair_in {mem : ax_Me} {a : Nat} {w p : Int32} (h : ¬ F_X5_isPair mem a w p = 0) : vp_in (w * 8 + p) 64 := (in8_8 (has_in (pair_of h).1) (has_in (pair_of h).2.1)).1
def F_X5_marksOf (mem : ax_Me) (a : Nat) (p0 : Int32) : Int32 :=
  (if (F_X5_has mem a p0) = 0 then 0 else (mem (a + 1) p0.toNatClampNeg))
set_option maxRecDepth 20000 in
theorem s_X5_marksOf {G : ax_G} {l : Launch} (mem : ax_Me) {a : Nat} (hP : ax_isP a) (p0 : Int32)  : AD G l 1 mX5_marksOf [.ref a, .int p0] mem (some (.int (F_X5_marksOf mem a p0))) mem := by
  refine ax_start (ls := [.ref a, .int p0]) (u := 0) (by decide +kernel) (Nat.le_of_ble_eq_true rfl) (Nat.le_refl _) (Nat.le_refl _) rfl ?_
  refine ax_aload_n (j := 0) dX5_marksOf_0 rfl rfl rfl ?_
  refine ax_iload_n (j := 1) dX5_marksOf_1 rfl rfl rfl ?_
  refine ad_V1 ksX5_has lkX5_47 dX5_marksOf_2 rfl hP.o rfl (Nat.le_of_ble_eq_true rfl) (Nat.le_of_ble_eq_true rfl) (s_X5_has _ hP _) ?_
  refine ax_if_eq (tgt := 17) dX5_marksOf_5 (by decide) rfl (fun c5 => ?_) (fun c5 => ?_)
  · refine ax_iconst (v := 0) dX5_marksOf_17 (by decide) rfl ?_
    exact ax_ireturn rfl dX5_marksOf_18 ⟨by simp only [F_X5_marksOf, if_pos c5], rfl⟩
  · refine ax_aload_n (j := 0) dX5_marksOf_8 rfl rfl rfl ?_
    refine am_getR flX5_9 dX5_marksOf_9 rfl hP.o rfl ?_
    refine ax_iload_n (j := 1) dX5_marksOf_12 rfl rfl rfl ?_
    refine am_iald dX5_marksOf_13 rfl hP.m1 (has_in c5) ?_
    refine ax_goto (tgt := 18) dX5_marksOf_14 (by decide) ?_
    exact ax_ireturn rfl dX5_marksOf_18 ⟨by simp only [F_X5_marksOf, if_neg c5], rfl⟩

def F_X5_changesOf (mem : ax_Me) (a : Nat) (p0 : Int32) : Int32 :=
  (if (F_X5_has mem a p0) = 0 then 0 else (mem (a + 2) p0.toNatClampNeg))
set_option maxRecDepth 20000 in
theorem s_X5_changesOf {G : ax_G} {l : Launch} (mem : ax_Me) {a : Nat} (hP : ax_isP a) (p0 : Int32)  : AD G l 1 mX5_changesOf [.ref a, .int p0] mem (some (.int (F_X5_changesOf mem a p0))) mem := by
  refine ax_start (ls := [.ref a, .int p0]) (u := 0) (by decide +kernel) (Nat.le_of_ble_eq_true rfl) (Nat.le_refl _) (Nat.le_refl _) rfl ?_
  refine ax_aload_n (j := 0) dX5_changesOf_0 rfl rfl rfl ?_
  refine ax_iload_n (j := 1) dX5_changesOf_1 rfl rfl rfl ?_
  refine ad_V1 ksX5_has lkX5_47 dX5_changesOf_2 rfl hP.o rfl (Nat.le_of_ble_eq_true rfl) (Nat.le_of_ble_eq_true rfl) (s_X5_has _ hP _) ?_
  refine ax_if_eq (tgt := 17) dX5_changesOf_5 (by decide) rfl (fun c5 => ?_) (fun c5 => ?_)
  · refine ax_iconst (v := 0) dX5_changesOf_17 (by decide) rfl ?_
    exact ax_ireturn rfl dX5_changesOf_18 ⟨by simp only [F_X5_changesOf, if_pos c5], rfl⟩
  · refine ax_aload_n (j := 0) dX5_changesOf_8 rfl rfl rfl ?_
    refine am_getR flX5_15 dX5_changesOf_9 rfl hP.o rfl ?_
    refine ax_iload_n (j := 1) dX5_changesOf_12 rfl rfl rfl ?_
    refine am_iald dX5_changesOf_13 rfl hP.m2 (has_in c5) ?_
    refine ax_goto (tgt := 18) dX5_changesOf_14 (by decide) ?_
    exact ax_ireturn rfl dX5_changesOf_18 ⟨by simp only [F_X5_changesOf, if_neg c5], rfl⟩

def F_X5_identityOf (mem : ax_Me) (a : Nat) (p0 : Int32) : Int32 :=
  (if (F_X5_has mem a p0) = 0 then (-1) else (mem (a + 3) p0.toNatClampNeg))
set_option maxRecDepth 20000 in
theorem s_X5_identityOf {G : ax_G} {l : Launch} (mem : ax_Me) {a : Nat} (hP : ax_isP a) (p0 : Int32)  : AD G l 1 mX5_identityOf [.ref a, .int p0] mem (some (.int (F_X5_identityOf mem a p0))) mem := by
  refine ax_start (ls := [.ref a, .int p0]) (u := 0) (by decide +kernel) (Nat.le_of_ble_eq_true rfl) (Nat.le_refl _) (Nat.le_refl _) rfl ?_
  refine ax_aload_n (j := 0) dX5_identityOf_0 rfl rfl rfl ?_
  refine ax_iload_n (j := 1) dX5_identityOf_1 rfl rfl rfl ?_
  refine ad_V1 ksX5_has lkX5_47 dX5_identityOf_2 rfl hP.o rfl (Nat.le_of_ble_eq_true rfl) (Nat.le_of_ble_eq_true rfl) (s_X5_has _ hP _) ?_
  refine ax_if_eq (tgt := 17) dX5_identityOf_5 (by decide) rfl (fun c5 => ?_) (fun c5 => ?_)
  · refine ax_iconst (v := (-1)) dX5_identityOf_17 (by decide) rfl ?_
    exact ax_ireturn rfl dX5_identityOf_18 ⟨by simp only [F_X5_identityOf, if_pos c5], rfl⟩
  · refine ax_aload_n (j := 0) dX5_identityOf_8 rfl rfl rfl ?_
    refine am_getR flX5_18 dX5_identityOf_9 rfl hP.o rfl ?_
    refine ax_iload_n (j := 1) dX5_identityOf_12 rfl rfl rfl ?_
    refine am_iald dX5_identityOf_13 rfl hP.m3 (has_in c5) ?_
    refine ax_goto (tgt := 18) dX5_identityOf_14 (by decide) ?_
    exact ax_ireturn rfl dX5_identityOf_18 ⟨by simp only [F_X5_identityOf, if_neg c5], rfl⟩

def F_X5_memoryOf (mem : ax_Me) (a : Nat) (p0 : Int32) (p1 : Int32) : Int32 :=
  (if (F_X5_isPair mem a p0 p1) = 0 then (-1) else (mem (a + 4) ((p0 * 8) + p1).toNatClampNeg))
set_option maxRecDepth 20000 in
theorem s_X5_memoryOf {G : ax_G} {l : Launch} (mem : ax_Me) {a : Nat} (hP : ax_isP a) (p0 : Int32) (p1 : Int32)  : AD G l 2 mX5_memoryOf [.ref a, .int p0, .int p1] mem (some (.int (F_X5_memoryOf mem a p0 p1))) mem := by
  refine ax_start (ls := [.ref a, .int p0, .int p1]) (u := 0) (by decide +kernel) (Nat.le_of_ble_eq_true rfl) (Nat.le_refl _) (Nat.le_refl _) rfl ?_
  refine ax_aload_n (j := 0) dX5_memoryOf_0 rfl rfl rfl ?_
  refine ax_iload_n (j := 1) dX5_memoryOf_1 rfl rfl rfl ?_
  refine ax_iload_n (j := 2) dX5_memoryOf_2 rfl rfl rfl ?_
  refine ad_V2 ksX5_isPair lkX5_55 dX5_memoryOf_3 rfl hP.o rfl (Nat.le_of_ble_eq_true rfl) (Nat.le_of_ble_eq_true rfl) (s_X5_isPair _ hP _ _) ?_
  refine ax_if_eq (tgt := 23) dX5_memoryOf_6 (by decide) rfl (fun c6 => ?_) (fun c6 => ?_)
  · refine ax_iconst (v := (-1)) dX5_memoryOf_23 (by decide) rfl ?_
    exact ax_ireturn rfl dX5_memoryOf_24 ⟨by simp only [F_X5_memoryOf, if_pos c6], rfl⟩
  · refine ax_aload_n (j := 0) dX5_memoryOf_9 rfl rfl rfl ?_
    refine am_getR flX5_21 dX5_memoryOf_10 rfl hP.o rfl ?_
    refine ax_iload_n (j := 1) dX5_memoryOf_13 rfl rfl rfl ?_
    refine ax_bipush (v := 8) dX5_memoryOf_14 (by decide) rfl ?_
    refine ax_imul dX5_memoryOf_16 rfl ?_
    refine ax_iload_n (j := 2) dX5_memoryOf_17 rfl rfl rfl ?_
    refine ax_iadd dX5_memoryOf_18 rfl ?_
    refine am_iald dX5_memoryOf_19 rfl hP.m4 (pair_in c6) ?_
    refine ax_goto (tgt := 24) dX5_memoryOf_20 (by decide) ?_
    exact ax_ireturn rfl dX5_memoryOf_24 ⟨by simp only [F_X5_memoryOf, if_neg c6], rfl⟩

def F_X5_knows (mem : ax_Me) (a : Nat) (p0 : Int32) (p1 : Int32) : Int32 :=
  (if (F_X5_memoryOf mem a p0 p1) = (-1) then 0 else 1)
set_option maxRecDepth 20000 in
theorem s_X5_knows {G : ax_G} {l : Launch} (mem : ax_Me) {a : Nat} (hP : ax_isP a) (p0 : Int32) (p1 : Int32)  : AD G l 3 mX5_knows [.ref a, .int p0, .int p1] mem (some (.int (F_X5_knows mem a p0 p1))) mem := by
  refine ax_start (ls := [.ref a, .int p0, .int p1]) (u := 0) (by decide +kernel) (Nat.le_of_ble_eq_true rfl) (Nat.le_refl _) (Nat.le_refl _) rfl ?_
  refine ax_aload_n (j := 0) dX5_knows_0 rfl rfl rfl ?_
  refine ax_iload_n (j := 1) dX5_knows_1 rfl rfl rfl ?_
  refine ax_iload_n (j := 2) dX5_knows_2 rfl rfl rfl ?_
  refine ad_V2 ksX5_memoryOf lkX5_59 dX5_knows_3 rfl hP.o rfl (Nat.le_of_ble_eq_true rfl) (Nat.le_of_ble_eq_true rfl) (s_X5_memoryOf _ hP _ _) ?_
  refine ax_iconst (v := (-1)) dX5_knows_6 (by decide) rfl ?_
  refine ax_icmp_eq (tgt := 14) dX5_knows_7 (by decide) rfl (fun c7 => ?_) (fun c7 => ?_)
  · refine ax_iconst (v := 0) dX5_knows_14 (by decide) rfl ?_
    exact ax_zreturn rfl dX5_knows_15 rfl ⟨by simp only [F_X5_knows, if_pos c7], rfl⟩
  · refine ax_iconst (v := 1) dX5_knows_10 (by decide) rfl ?_
    refine ax_goto (tgt := 15) dX5_knows_11 (by decide) ?_
    exact ax_zreturn rfl dX5_knows_15 rfl ⟨by simp only [F_X5_knows, if_neg c7], rfl⟩

def F_X5_flip (mem : ax_Me) (a : Nat) (p0 : Int32) (p1 : Int32) : ax_Me :=
  (if (F_X5_has mem a p0) = 0 then mem else (ax_u mem (a + 1) p0.toNatClampNeg ((mem (a + 1) p0.toNatClampNeg) ^^^ (1 <<< (p1 &&& 31)))))
set_option maxRecDepth 20000 in
theorem s_X5_flip {G : ax_G} {l : Launch} (mem : ax_Me) {a : Nat} (hP : ax_isP a) (p0 : Int32) (p1 : Int32)  : AD G l 1 mX5_flip [.ref a, .int p0, .int p1] mem none (F_X5_flip mem a p0 p1) := by
  refine ax_start (ls := [.ref a, .int p0, .int p1]) (u := 0) (by decide +kernel) (Nat.le_of_ble_eq_true rfl) (Nat.le_refl _) (Nat.le_refl _) rfl ?_
  refine ax_aload_n (j := 0) dX5_flip_0 rfl rfl rfl ?_
  refine ax_iload_n (j := 1) dX5_flip_1 rfl rfl rfl ?_
  refine ad_V1 ksX5_has lkX5_47 dX5_flip_2 rfl hP.o rfl (Nat.le_of_ble_eq_true rfl) (Nat.le_of_ble_eq_true rfl) (s_X5_has _ hP _) ?_
  refine ax_if_eq (tgt := 20) dX5_flip_5 (by decide) rfl (fun c5 => ?_) (fun c5 => ?_)
  · exact ax_vreturn rfl dX5_flip_20 ⟨rfl, by simp only [F_X5_flip, if_pos c5]⟩
  · refine ax_aload_n (j := 0) dX5_flip_8 rfl rfl rfl ?_
    refine am_getR flX5_9 dX5_flip_9 rfl hP.o rfl ?_
    refine ax_iload_n (j := 1) dX5_flip_12 rfl rfl rfl ?_
    refine ax_dup2 dX5_flip_13 rfl rfl rfl ?_
    refine am_iald dX5_flip_14 rfl hP.m1 (has_in c5) ?_
    refine ax_iconst (v := 1) dX5_flip_15 (by decide) rfl ?_
    refine ax_iload_n (j := 2) dX5_flip_16 rfl rfl rfl ?_
    refine ax_ishl dX5_flip_17 rfl ?_
    refine ax_ixor dX5_flip_18 rfl ?_
    refine am_iast dX5_flip_19 rfl hP.m1 (has_in c5) ?_
    exact ax_vreturn rfl dX5_flip_20 ⟨rfl, by simp only [F_X5_flip, if_neg c5]⟩

def F_X5_learn (mem : ax_Me) (a : Nat) (p0 : Int32) (p1 : Int32) : ax_Me :=
  (if (F_X5_isPair mem a p0 p1) = 0 then mem else (ax_u mem (a + 4) ((p0 * 8) + p1).toNatClampNeg (F_X5_marksOf mem a p1)))
set_option maxRecDepth 20000 in
theorem s_X5_learn {G : ax_G} {l : Launch} (mem : ax_Me) {a : Nat} (hP : ax_isP a) (p0 : Int32) (p1 : Int32)  : AD G l 2 mX5_learn [.ref a, .int p0, .int p1] mem none (F_X5_learn mem a p0 p1) := by
  refine ax_start (ls := [.ref a, .int p0, .int p1]) (u := 0) (by decide +kernel) (Nat.le_of_ble_eq_true rfl) (Nat.le_refl _) (Nat.le_refl _) rfl ?_
  refine ax_aload_n (j := 0) dX5_learn_0 rfl rfl rfl ?_
  refine ax_iload_n (j := 1) dX5_learn_1 rfl rfl rfl ?_
  refine ax_iload_n (j := 2) dX5_learn_2 rfl rfl rfl ?_
  refine ad_V2 ksX5_isPair lkX5_55 dX5_learn_3 rfl hP.o rfl (Nat.le_of_ble_eq_true rfl) (Nat.le_of_ble_eq_true rfl) (s_X5_isPair _ hP _ _) ?_
  refine ax_if_eq (tgt := 25) dX5_learn_6 (by decide) rfl (fun c6 => ?_) (fun c6 => ?_)
  · exact ax_vreturn rfl dX5_learn_25 ⟨rfl, by simp only [F_X5_learn, if_pos c6]⟩
  · refine ax_aload_n (j := 0) dX5_learn_9 rfl rfl rfl ?_
    refine am_getR flX5_21 dX5_learn_10 rfl hP.o rfl ?_
    refine ax_iload_n (j := 1) dX5_learn_13 rfl rfl rfl ?_
    refine ax_bipush (v := 8) dX5_learn_14 (by decide) rfl ?_
    refine ax_imul dX5_learn_16 rfl ?_
    refine ax_iload_n (j := 2) dX5_learn_17 rfl rfl rfl ?_
    refine ax_iadd dX5_learn_18 rfl ?_
    refine ax_aload_n (j := 0) dX5_learn_19 rfl rfl rfl ?_
    refine ax_iload_n (j := 2) dX5_learn_20 rfl rfl rfl ?_
    refine ad_V1 ksX5_marksOf lkX5_63 dX5_learn_21 rfl hP.o rfl (Nat.le_of_ble_eq_true rfl) (Nat.le_of_ble_eq_true rfl) (s_X5_marksOf _ hP _) ?_
    refine am_iast dX5_learn_24 rfl hP.m4 (pair_in c6) ?_
    exact ax_vreturn rfl dX5_learn_25 ⟨rfl, by simp only [F_X5_learn, if_neg c6]⟩

def F_X5_unlearn (mem : ax_Me) (a : Nat) (p0 : Int32) (p1 : Int32) : ax_Me :=
  (if (F_X5_isPair mem a p0 p1) = 0 then mem else (ax_u mem (a + 4) ((p0 * 8) + p1).toNatClampNeg (-1)))
set_option maxRecDepth 20000 in
theorem s_X5_unlearn {G : ax_G} {l : Launch} (mem : ax_Me) {a : Nat} (hP : ax_isP a) (p0 : Int32) (p1 : Int32)  : AD G l 2 mX5_unlearn [.ref a, .int p0, .int p1] mem none (F_X5_unlearn mem a p0 p1) := by
  refine ax_start (ls := [.ref a, .int p0, .int p1]) (u := 0) (by decide +kernel) (Nat.le_of_ble_eq_true rfl) (Nat.le_refl _) (Nat.le_refl _) rfl ?_
  refine ax_aload_n (j := 0) dX5_unlearn_0 rfl rfl rfl ?_
  refine ax_iload_n (j := 1) dX5_unlearn_1 rfl rfl rfl ?_
  refine ax_iload_n (j := 2) dX5_unlearn_2 rfl rfl rfl ?_
  refine ad_V2 ksX5_isPair lkX5_55 dX5_unlearn_3 rfl hP.o rfl (Nat.le_of_ble_eq_true rfl) (Nat.le_of_ble_eq_true rfl) (s_X5_isPair _ hP _ _) ?_
  refine ax_if_eq (tgt := 21) dX5_unlearn_6 (by decide) rfl (fun c6 => ?_) (fun c6 => ?_)
  · exact ax_vreturn rfl dX5_unlearn_21 ⟨rfl, by simp only [F_X5_unlearn, if_pos c6]⟩
  · refine ax_aload_n (j := 0) dX5_unlearn_9 rfl rfl rfl ?_
    refine am_getR flX5_21 dX5_unlearn_10 rfl hP.o rfl ?_
    refine ax_iload_n (j := 1) dX5_unlearn_13 rfl rfl rfl ?_
    refine ax_bipush (v := 8) dX5_unlearn_14 (by decide) rfl ?_
    refine ax_imul dX5_unlearn_16 rfl ?_
    refine ax_iload_n (j := 2) dX5_unlearn_17 rfl rfl rfl ?_
    refine ax_iadd dX5_unlearn_18 rfl ?_
    refine ax_iconst (v := (-1)) dX5_unlearn_19 (by decide) rfl ?_
    refine am_iast dX5_unlearn_20 rfl hP.m4 (pair_in c6) ?_
    exact ax_vreturn rfl dX5_unlearn_21 ⟨rfl, by simp only [F_X5_unlearn, if_neg c6]⟩

def F_X5_identify (mem : ax_Me) (a : Nat) (p0 : Int32) (p1 : Int32) : ax_Me :=
  (if (F_X5_has mem a p0) = 0 then mem else (ax_u mem (a + 3) p0.toNatClampNeg p1))
set_option maxRecDepth 20000 in
theorem s_X5_identify {G : ax_G} {l : Launch} (mem : ax_Me) {a : Nat} (hP : ax_isP a) (p0 : Int32) (p1 : Int32)  : AD G l 1 mX5_identify [.ref a, .int p0, .int p1] mem none (F_X5_identify mem a p0 p1) := by
  refine ax_start (ls := [.ref a, .int p0, .int p1]) (u := 0) (by decide +kernel) (Nat.le_of_ble_eq_true rfl) (Nat.le_refl _) (Nat.le_refl _) rfl ?_
  refine ax_aload_n (j := 0) dX5_identify_0 rfl rfl rfl ?_
  refine ax_iload_n (j := 1) dX5_identify_1 rfl rfl rfl ?_
  refine ad_V1 ksX5_has lkX5_47 dX5_identify_2 rfl hP.o rfl (Nat.le_of_ble_eq_true rfl) (Nat.le_of_ble_eq_true rfl) (s_X5_has _ hP _) ?_
  refine ax_if_eq (tgt := 15) dX5_identify_5 (by decide) rfl (fun c5 => ?_) (fun c5 => ?_)
  · exact ax_vreturn rfl dX5_identify_15 ⟨rfl, by simp only [F_X5_identify, if_pos c5]⟩
  · refine ax_aload_n (j := 0) dX5_identify_8 rfl rfl rfl ?_
    refine am_getR flX5_18 dX5_identify_9 rfl hP.o rfl ?_
    refine ax_iload_n (j := 1) dX5_identify_12 rfl rfl rfl ?_
    refine ax_iload_n (j := 2) dX5_identify_13 rfl rfl rfl ?_
    refine am_iast dX5_identify_14 rfl hP.m3 (has_in c5) ?_
    exact ax_vreturn rfl dX5_identify_15 ⟨rfl, by simp only [F_X5_identify, if_neg c5]⟩
end
section
/-! ===== the class: loops over persons ===== -/
def f_X5_knownBy_4 (mem : ax_Me) (a : Nat) (p0 : Int32)  (j : Nat) (s : Int32) : Int32 :=
  match s with
  | x0 => (if (F_X5_knows mem a p0 (nI j)) = 0 then x0 else (x0 ||| (1 <<< ((nI j) &&& 31))))
def F_X5_knownBy (mem : ax_Me) (a : Nat) (p0 : Int32) : Int32 :=
  (ax_it (f_X5_knownBy_4 mem a p0) (((mem a 4) : Int32).toNatClampNeg) (0) 0)
set_option maxRecDepth 20000 in
theorem lp_X5_knownBy_4 {G : ax_G} {l : Launch} {Q : Option Value → ax_H → Prop} (mem : ax_Me) {a : Nat} (hP : ax_isP a) (p0 : Int32)   : ∀ (n j : Nat) (x0 : Int32), j + n = ((mem a 4) : Int32).toNatClampNeg → AX G l mX5_knownBy 4 33 [.ref a, .int p0, .int (ax_it (f_X5_knownBy_4 mem a p0) n j x0), .int (nI (((mem a 4) : Int32).toNatClampNeg))] [] 153 0 (ax_hm mem) 153 0 Q → AX G l mX5_knownBy 4 4 [.ref a, .int p0, .int x0, .int (nI j)] [] 153 0 (ax_hm mem) 153 0 Q := by
  intro n
  induction n with
  | zero =>
    intro j x0 hj hx
    refine ax_iload_n (j := 3) dX5_knownBy_4 rfl rfl rfl ?_
    refine ax_aload_n (j := 0) dX5_knownBy_5 rfl rfl rfl ?_
    refine am_getI flX5_30 dX5_knownBy_6 rfl hP.o rfl ?_
    refine ax_icmp_ge (tgt := 33) dX5_knownBy_9 (by decide) rfl (fun c9 => ?_) (fun c9 => ?_)
    · have q := hx
      simp only [ax_it] at q
      rw [show (((mem a 4) : Int32).toNatClampNeg) = j by omega] at q
      exact q
    · exact absurd (cl_ge (by omega)) c9
  | succ n ih =>
    intro j x0 hj hx
    refine ax_iload_n (j := 3) dX5_knownBy_4 rfl rfl rfl ?_
    refine ax_aload_n (j := 0) dX5_knownBy_5 rfl rfl rfl ?_
    refine am_getI flX5_30 dX5_knownBy_6 rfl hP.o rfl ?_
    refine ax_icmp_ge (tgt := 33) dX5_knownBy_9 (by decide) rfl (fun c9 => ?_) (fun c9 => ?_)
    · exact absurd c9 (cl_nle (by omega))
    · refine ax_aload_n (j := 0) dX5_knownBy_12 rfl rfl rfl ?_
      refine ax_iload_n (j := 1) dX5_knownBy_13 rfl rfl rfl ?_
      refine ax_iload_n (j := 3) dX5_knownBy_14 rfl rfl rfl ?_
      refine ad_V2 ksX5_knows lkX5_74 dX5_knownBy_15 rfl hP.o rfl (Nat.le_of_ble_eq_true rfl) (Nat.le_of_ble_eq_true rfl) (s_X5_knows _ hP _ _) ?_
      refine ax_if_eq (tgt := 27) dX5_knownBy_18 (by decide) rfl (fun c18 => ?_) (fun c18 => ?_)
      · refine ax_iinc3 (v := nI (j + 1)) dX5_knownBy_27 rfl (cl_inc j) (Nat.le_of_ble_eq_true rfl) rfl ?_
        refine ax_goto (tgt := 4) dX5_knownBy_30 (by decide) ?_
        have e1 : f_X5_knownBy_4 mem a p0 j x0 = x0 := by simp only [f_X5_knownBy_4, if_pos c18]
        simp only [ax_it, e1] at hx
        exact ih (j + 1) (x0) (by omega) hx
      · refine ax_iload_n (j := 2) dX5_knownBy_21 rfl rfl rfl ?_
        refine ax_iconst (v := 1) dX5_knownBy_22 (by decide) rfl ?_
        refine ax_iload_n (j := 3) dX5_knownBy_23 rfl rfl rfl ?_
        refine ax_ishl dX5_knownBy_24 rfl ?_
        refine ax_ior dX5_knownBy_25 rfl ?_
        refine ax_ist2 dX5_knownBy_26 rfl rfl (Nat.le_of_ble_eq_true rfl) rfl ?_
        refine ax_iinc3 (v := nI (j + 1)) dX5_knownBy_27 rfl (cl_inc j) (Nat.le_of_ble_eq_true rfl) rfl ?_
        refine ax_goto (tgt := 4) dX5_knownBy_30 (by decide) ?_
        have e1 : f_X5_knownBy_4 mem a p0 j x0 = (x0 ||| (1 <<< ((nI j) &&& 31))) := by simp only [f_X5_knownBy_4, if_neg c18]
        simp only [ax_it, e1] at hx
        exact ih (j + 1) ((x0 ||| (1 <<< ((nI j) &&& 31)))) (by omega) hx
set_option maxRecDepth 20000 in
theorem s_X5_knownBy {G : ax_G} {l : Launch} (mem : ax_Me) {a : Nat} (hP : ax_isP a) (p0 : Int32)  : AD G l 4 mX5_knownBy [.ref a, .int p0] mem (some (.int (F_X5_knownBy mem a p0))) mem := by
  refine ax_start (ls := [.ref a, .int p0, .float 0, .float 0]) (u := 2) (by decide +kernel) (Nat.le_of_ble_eq_true rfl) (Nat.le_refl _) (Nat.le_refl _) rfl ?_
  refine ax_iconst (v := 0) dX5_knownBy_0 (by decide) rfl ?_
  refine ax_ist2 dX5_knownBy_1 rfl rfl (Nat.le_of_ble_eq_true rfl) rfl ?_
  refine ax_iconst (v := 0) dX5_knownBy_2 (by decide) rfl ?_
  refine ax_ist3 dX5_knownBy_3 rfl rfl (Nat.le_of_ble_eq_true rfl) rfl ?_
  refine lp_X5_knownBy_4 mem hP p0    (((mem a 4) : Int32).toNatClampNeg) (0) (0) (Nat.zero_add _)  ?_
  refine ax_iload_n (j := 2) dX5_knownBy_33 rfl rfl rfl ?_
  exact ax_ireturn rfl dX5_knownBy_34 ⟨by simp only [F_X5_knownBy], rfl⟩
end
