section
-- ===== PART A: goes FIRST, ahead of the names: the tables' words, and 'selects' of the private methods out of them =====
/-- a private method of a class that the tables say can be made, by its rows of tables_1 -/
def lw_okq (q : MethodName × Nat) : Prop := (q.1.cls ≠ "java/lang/invoke/MethodHandle" ∧ q.1.cls ≠ "java/lang/invoke/VarHandle") ∧ Cond.instantiable q.1.cls q.2 ∈ tables_1 ∧ Cond.privateMethod q.1 ∈ tables_1 ∧ Cond.instanceMethod q.1 ∈ tables_1
theorem lw_p0 : lw_okq (⟨"RainShelves$House", "empty", "()V"⟩, 8) := ⟨⟨by decide +kernel, by decide +kernel⟩, List.mem_of_getElem? (i := 21) (by decide +kernel), List.mem_of_getElem? (i := 27) (by decide +kernel), List.mem_of_getElem? (i := 28) (by decide +kernel)⟩
theorem lw_p1 : lw_okq (⟨"RainShelves$Text", "append", "(I)Z"⟩, 9) := ⟨⟨by decide +kernel, by decide +kernel⟩, List.mem_of_getElem? (i := 74) (by decide +kernel), List.mem_of_getElem? (i := 258) (by decide +kernel), List.mem_of_getElem? (i := 259) (by decide +kernel)⟩
theorem lw_p2 : lw_okq (⟨"RainShelves$Text", "read", "()I"⟩, 9) := ⟨⟨by decide +kernel, by decide +kernel⟩, List.mem_of_getElem? (i := 74) (by decide +kernel), List.mem_of_getElem? (i := 270) (by decide +kernel), List.mem_of_getElem? (i := 271) (by decide +kernel)⟩
theorem lw_p3 : lw_okq (⟨"RainShelves$Text", "step", "()V"⟩, 9) := ⟨⟨by decide +kernel, by decide +kernel⟩, List.mem_of_getElem? (i := 74) (by decide +kernel), List.mem_of_getElem? (i := 275) (by decide +kernel), List.mem_of_getElem? (i := 276) (by decide +kernel)⟩
theorem lw_p4 : lw_okq (⟨"RainShelves$Text", "digits", "()I"⟩, 9) := ⟨⟨by decide +kernel, by decide +kernel⟩, List.mem_of_getElem? (i := 74) (by decide +kernel), List.mem_of_getElem? (i := 282) (by decide +kernel), List.mem_of_getElem? (i := 283) (by decide +kernel)⟩
theorem lw_p5 : lw_okq (⟨"RainShelves$Text", "readItem", "()Z"⟩, 9) := ⟨⟨by decide +kernel, by decide +kernel⟩, List.mem_of_getElem? (i := 74) (by decide +kernel), List.mem_of_getElem? (i := 289) (by decide +kernel), List.mem_of_getElem? (i := 290) (by decide +kernel)⟩
theorem lw_p6 : lw_okq (⟨"RainShelves$Text", "readPan", "()Z"⟩, 9) := ⟨⟨by decide +kernel, by decide +kernel⟩, List.mem_of_getElem? (i := 74) (by decide +kernel), List.mem_of_getElem? (i := 293) (by decide +kernel), List.mem_of_getElem? (i := 294) (by decide +kernel)⟩
theorem lw_p7 : lw_okq (⟨"RainShelves$Text", "readNumber", "(II)Z"⟩, 9) := ⟨⟨by decide +kernel, by decide +kernel⟩, List.mem_of_getElem? (i := 74) (by decide +kernel), List.mem_of_getElem? (i := 297) (by decide +kernel), List.mem_of_getElem? (i := 298) (by decide +kernel)⟩
theorem lw_p8 : lw_okq (⟨"RainShelves$House", "append", "(IIII)Z"⟩, 8) := ⟨⟨by decide +kernel, by decide +kernel⟩, List.mem_of_getElem? (i := 21) (by decide +kernel), List.mem_of_getElem? (i := 301) (by decide +kernel), List.mem_of_getElem? (i := 302) (by decide +kernel)⟩
theorem lw_p9 : lw_okq (⟨"RainShelves$Text", "readLeast", "()Z"⟩, 9) := ⟨⟨by decide +kernel, by decide +kernel⟩, List.mem_of_getElem? (i := 74) (by decide +kernel), List.mem_of_getElem? (i := 305) (by decide +kernel), List.mem_of_getElem? (i := 306) (by decide +kernel)⟩
theorem lw_p10 : lw_okq (⟨"RainShelves$Text", "readShelf", "()Z"⟩, 9) := ⟨⟨by decide +kernel, by decide +kernel⟩, List.mem_of_getElem? (i := 74) (by decide +kernel), List.mem_of_getElem? (i := 309) (by decide +kernel), List.mem_of_getElem? (i := 310) (by decide +kernel)⟩
theorem lw_p11 : lw_okq (⟨"RainShelves$House", "become", "(LRainShelves$House;)V"⟩, 8) := ⟨⟨by decide +kernel, by decide +kernel⟩, List.mem_of_getElem? (i := 21) (by decide +kernel), List.mem_of_getElem? (i := 313) (by decide +kernel), List.mem_of_getElem? (i := 314) (by decide +kernel)⟩
theorem lw_p12 : lw_okq (⟨"RainShelves$Rain", "fill", "()V"⟩, 4) := ⟨⟨by decide +kernel, by decide +kernel⟩, List.mem_of_getElem? (i := 112) (by decide +kernel), List.mem_of_getElem? (i := 317) (by decide +kernel), List.mem_of_getElem? (i := 318) (by decide +kernel)⟩
theorem lw_p13 : lw_okq (⟨"RainShelves$House", "has", "(I)Z"⟩, 8) := ⟨⟨by decide +kernel, by decide +kernel⟩, List.mem_of_getElem? (i := 21) (by decide +kernel), List.mem_of_getElem? (i := 328) (by decide +kernel), List.mem_of_getElem? (i := 329) (by decide +kernel)⟩
theorem lw_p14 : lw_okq (⟨"RainShelves$Rain", "inPan", "(I)I"⟩, 4) := ⟨⟨by decide +kernel, by decide +kernel⟩, List.mem_of_getElem? (i := 112) (by decide +kernel), List.mem_of_getElem? (i := 332) (by decide +kernel), List.mem_of_getElem? (i := 333) (by decide +kernel)⟩
theorem lw_p15 : lw_okq (⟨"RainShelves$Rain", "amount", "(II)I"⟩, 4) := ⟨⟨by decide +kernel, by decide +kernel⟩, List.mem_of_getElem? (i := 112) (by decide +kernel), List.mem_of_getElem? (i := 336) (by decide +kernel), List.mem_of_getElem? (i := 337) (by decide +kernel)⟩
def lw_privs_1 : List (MethodName × Nat) := [(⟨"RainShelves$House", "empty", "()V"⟩, 8), (⟨"RainShelves$Text", "append", "(I)Z"⟩, 9), (⟨"RainShelves$Text", "read", "()I"⟩, 9), (⟨"RainShelves$Text", "step", "()V"⟩, 9), (⟨"RainShelves$Text", "digits", "()I"⟩, 9), (⟨"RainShelves$Text", "readItem", "()Z"⟩, 9), (⟨"RainShelves$Text", "readPan", "()Z"⟩, 9), (⟨"RainShelves$Text", "readNumber", "(II)Z"⟩, 9), (⟨"RainShelves$House", "append", "(IIII)Z"⟩, 8), (⟨"RainShelves$Text", "readLeast", "()Z"⟩, 9), (⟨"RainShelves$Text", "readShelf", "()Z"⟩, 9), (⟨"RainShelves$House", "become", "(LRainShelves$House;)V"⟩, 8), (⟨"RainShelves$Rain", "fill", "()V"⟩, 4), (⟨"RainShelves$House", "has", "(I)Z"⟩, 8), (⟨"RainShelves$Rain", "inPan", "(I)I"⟩, 4), (⟨"RainShelves$Rain", "amount", "(II)I"⟩, 4)]
theorem lw_r1 : ∀ q ∈ lw_privs_1, lw_okq q := List.forall_mem_cons.mpr ⟨lw_p0, List.forall_mem_cons.mpr ⟨lw_p1, List.forall_mem_cons.mpr ⟨lw_p2, List.forall_mem_cons.mpr ⟨lw_p3, List.forall_mem_cons.mpr ⟨lw_p4, List.forall_mem_cons.mpr ⟨lw_p5, List.forall_mem_cons.mpr ⟨lw_p6, List.forall_mem_cons.mpr ⟨lw_p7, List.forall_mem_cons.mpr ⟨lw_p8, List.forall_mem_cons.mpr ⟨lw_p9, List.forall_mem_cons.mpr ⟨lw_p10, List.forall_mem_cons.mpr ⟨lw_p11, List.forall_mem_cons.mpr ⟨lw_p12, List.forall_mem_cons.mpr ⟨lw_p13, List.forall_mem_cons.mpr ⟨lw_p14, List.forall_mem_cons.mpr ⟨lw_p15, fun _ h => absurd h List.not_mem_nil⟩⟩⟩⟩⟩⟩⟩⟩⟩⟩⟩⟩⟩⟩⟩⟩
theorem lw_p16 : lw_okq (⟨"RainShelves$Rain", "canBeRead", "(I)Z"⟩, 4) := ⟨⟨by decide +kernel, by decide +kernel⟩, List.mem_of_getElem? (i := 112) (by decide +kernel), List.mem_of_getElem? (i := 340) (by decide +kernel), List.mem_of_getElem? (i := 341) (by decide +kernel)⟩
theorem lw_p17 : lw_okq (⟨"RainShelves$Rain", "canBeReadIn", "(II)Z"⟩, 4) := ⟨⟨by decide +kernel, by decide +kernel⟩, List.mem_of_getElem? (i := 112) (by decide +kernel), List.mem_of_getElem? (i := 344) (by decide +kernel), List.mem_of_getElem? (i := 345) (by decide +kernel)⟩
theorem lw_p18 : lw_okq (⟨"RainShelves$Rain", "tasteOf", "(I)I"⟩, 4) := ⟨⟨by decide +kernel, by decide +kernel⟩, List.mem_of_getElem? (i := 112) (by decide +kernel), List.mem_of_getElem? (i := 349) (by decide +kernel), List.mem_of_getElem? (i := 350) (by decide +kernel)⟩
theorem lw_p19 : lw_okq (⟨"RainShelves$Rain", "whereIs", "(I)I"⟩, 4) := ⟨⟨by decide +kernel, by decide +kernel⟩, List.mem_of_getElem? (i := 112) (by decide +kernel), List.mem_of_getElem? (i := 353) (by decide +kernel), List.mem_of_getElem? (i := 354) (by decide +kernel)⟩
theorem lw_p20 : lw_okq (⟨"RainShelves$Rain", "inAll", "()I"⟩, 4) := ⟨⟨by decide +kernel, by decide +kernel⟩, List.mem_of_getElem? (i := 112) (by decide +kernel), List.mem_of_getElem? (i := 366) (by decide +kernel), List.mem_of_getElem? (i := 367) (by decide +kernel)⟩
theorem lw_p21 : lw_okq (⟨"RainShelves$Rain", "readable", "()I"⟩, 4) := ⟨⟨by decide +kernel, by decide +kernel⟩, List.mem_of_getElem? (i := 112) (by decide +kernel), List.mem_of_getElem? (i := 371) (by decide +kernel), List.mem_of_getElem? (i := 372) (by decide +kernel)⟩
theorem lw_p22 : lw_okq (⟨"RainShelves$Rain", "wettest", "()I"⟩, 4) := ⟨⟨by decide +kernel, by decide +kernel⟩, List.mem_of_getElem? (i := 112) (by decide +kernel), List.mem_of_getElem? (i := 376) (by decide +kernel), List.mem_of_getElem? (i := 377) (by decide +kernel)⟩
theorem lw_p23 : lw_okq (⟨"RainShelves$Rain", "ofYear", "(I)I"⟩, 4) := ⟨⟨by decide +kernel, by decide +kernel⟩, List.mem_of_getElem? (i := 112) (by decide +kernel), List.mem_of_getElem? (i := 380) (by decide +kernel), List.mem_of_getElem? (i := 381) (by decide +kernel)⟩
theorem lw_p24 : lw_okq (⟨"RainShelves$History", "remember", "(LRainShelves$Rain;)V"⟩, 3) := ⟨⟨by decide +kernel, by decide +kernel⟩, List.mem_of_getElem? (i := 133) (by decide +kernel), List.mem_of_getElem? (i := 388) (by decide +kernel), List.mem_of_getElem? (i := 389) (by decide +kernel)⟩
theorem lw_p25 : lw_okq (⟨"RainShelves$Rain", "become", "(LRainShelves$Rain;)V"⟩, 4) := ⟨⟨by decide +kernel, by decide +kernel⟩, List.mem_of_getElem? (i := 112) (by decide +kernel), List.mem_of_getElem? (i := 392) (by decide +kernel), List.mem_of_getElem? (i := 393) (by decide +kernel)⟩
theorem lw_p26 : lw_okq (⟨"RainShelves$Rain", "take", "(III)I"⟩, 4) := ⟨⟨by decide +kernel, by decide +kernel⟩, List.mem_of_getElem? (i := 112) (by decide +kernel), List.mem_of_getElem? (i := 397) (by decide +kernel), List.mem_of_getElem? (i := 398) (by decide +kernel)⟩
theorem lw_p27 : lw_okq (⟨"RainShelves$Rain", "passSpring", "()I"⟩, 4) := ⟨⟨by decide +kernel, by decide +kernel⟩, List.mem_of_getElem? (i := 112) (by decide +kernel), List.mem_of_getElem? (i := 409) (by decide +kernel), List.mem_of_getElem? (i := 410) (by decide +kernel)⟩
theorem lw_p28 : lw_okq (⟨"RainShelves$History", "restore", "(LRainShelves$Rain;)V"⟩, 3) := ⟨⟨by decide +kernel, by decide +kernel⟩, List.mem_of_getElem? (i := 133) (by decide +kernel), List.mem_of_getElem? (i := 422) (by decide +kernel), List.mem_of_getElem? (i := 423) (by decide +kernel)⟩
theorem lw_p29 : lw_okq (⟨"RainShelves", "countReadableIn", "(I)I"⟩, 10) := ⟨⟨by decide +kernel, by decide +kernel⟩, List.mem_of_getElem? (i := 13) (by decide +kernel), List.mem_of_getElem? (i := 435) (by decide +kernel), List.mem_of_getElem? (i := 436) (by decide +kernel)⟩
theorem lw_p30 : lw_okq (⟨"RainShelves", "afterSprings", "(III)I"⟩, 10) := ⟨⟨by decide +kernel, by decide +kernel⟩, List.mem_of_getElem? (i := 13) (by decide +kernel), List.mem_of_getElem? (i := 439) (by decide +kernel), List.mem_of_getElem? (i := 440) (by decide +kernel)⟩
theorem lw_p31 : lw_okq (⟨"RainShelves$Sets", "weigh", "(LRainShelves$House;LRainShelves$Rain;)V"⟩, 6) := ⟨⟨by decide +kernel, by decide +kernel⟩, List.mem_of_getElem? (i := 177) (by decide +kernel), List.mem_of_getElem? (i := 450) (by decide +kernel), List.mem_of_getElem? (i := 451) (by decide +kernel)⟩
def lw_privs_2 : List (MethodName × Nat) := [(⟨"RainShelves$Rain", "canBeRead", "(I)Z"⟩, 4), (⟨"RainShelves$Rain", "canBeReadIn", "(II)Z"⟩, 4), (⟨"RainShelves$Rain", "tasteOf", "(I)I"⟩, 4), (⟨"RainShelves$Rain", "whereIs", "(I)I"⟩, 4), (⟨"RainShelves$Rain", "inAll", "()I"⟩, 4), (⟨"RainShelves$Rain", "readable", "()I"⟩, 4), (⟨"RainShelves$Rain", "wettest", "()I"⟩, 4), (⟨"RainShelves$Rain", "ofYear", "(I)I"⟩, 4), (⟨"RainShelves$History", "remember", "(LRainShelves$Rain;)V"⟩, 3), (⟨"RainShelves$Rain", "become", "(LRainShelves$Rain;)V"⟩, 4), (⟨"RainShelves$Rain", "take", "(III)I"⟩, 4), (⟨"RainShelves$Rain", "passSpring", "()I"⟩, 4), (⟨"RainShelves$History", "restore", "(LRainShelves$Rain;)V"⟩, 3), (⟨"RainShelves", "countReadableIn", "(I)I"⟩, 10), (⟨"RainShelves", "afterSprings", "(III)I"⟩, 10), (⟨"RainShelves$Sets", "weigh", "(LRainShelves$House;LRainShelves$Rain;)V"⟩, 6)]
theorem lw_r2 : ∀ q ∈ lw_privs_2, lw_okq q := List.forall_mem_cons.mpr ⟨lw_p16, List.forall_mem_cons.mpr ⟨lw_p17, List.forall_mem_cons.mpr ⟨lw_p18, List.forall_mem_cons.mpr ⟨lw_p19, List.forall_mem_cons.mpr ⟨lw_p20, List.forall_mem_cons.mpr ⟨lw_p21, List.forall_mem_cons.mpr ⟨lw_p22, List.forall_mem_cons.mpr ⟨lw_p23, List.forall_mem_cons.mpr ⟨lw_p24, List.forall_mem_cons.mpr ⟨lw_p25, List.forall_mem_cons.mpr ⟨lw_p26, List.forall_mem_cons.mpr ⟨lw_p27, List.forall_mem_cons.mpr ⟨lw_p28, List.forall_mem_cons.mpr ⟨lw_p29, List.forall_mem_cons.mpr ⟨lw_p30, List.forall_mem_cons.mpr ⟨lw_p31, fun _ h => absurd h List.not_mem_nil⟩⟩⟩⟩⟩⟩⟩⟩⟩⟩⟩⟩⟩⟩⟩⟩
theorem lw_p32 : lw_okq (⟨"RainShelves$House", "hailPans", "()I"⟩, 8) := ⟨⟨by decide +kernel, by decide +kernel⟩, List.mem_of_getElem? (i := 21) (by decide +kernel), List.mem_of_getElem? (i := 454) (by decide +kernel), List.mem_of_getElem? (i := 455) (by decide +kernel)⟩
theorem lw_p33 : lw_okq (⟨"RainShelves$Sets", "bestFire", "(II)I"⟩, 6) := ⟨⟨by decide +kernel, by decide +kernel⟩, List.mem_of_getElem? (i := 177) (by decide +kernel), List.mem_of_getElem? (i := 459) (by decide +kernel), List.mem_of_getElem? (i := 460) (by decide +kernel)⟩
theorem lw_p34 : lw_okq (⟨"RainShelves$Sets", "isBetterFire", "(III)Z"⟩, 6) := ⟨⟨by decide +kernel, by decide +kernel⟩, List.mem_of_getElem? (i := 177) (by decide +kernel), List.mem_of_getElem? (i := 463) (by decide +kernel), List.mem_of_getElem? (i := 464) (by decide +kernel)⟩
theorem lw_p35 : lw_okq (⟨"RainShelves$House", "spoonsOfLesser", "(IIII)I"⟩, 8) := ⟨⟨by decide +kernel, by decide +kernel⟩, List.mem_of_getElem? (i := 21) (by decide +kernel), List.mem_of_getElem? (i := 485) (by decide +kernel), List.mem_of_getElem? (i := 486) (by decide +kernel)⟩
theorem lw_p36 : lw_okq (⟨"RainShelves$Levels", "append", "(III)Z"⟩, 4) := ⟨⟨by decide +kernel, by decide +kernel⟩, List.mem_of_getElem? (i := 153) (by decide +kernel), List.mem_of_getElem? (i := 493) (by decide +kernel), List.mem_of_getElem? (i := 494) (by decide +kernel)⟩
theorem lw_p37 : lw_okq (⟨"RainShelves", "areLevelsSo", "(II)Z"⟩, 10) := ⟨⟨by decide +kernel, by decide +kernel⟩, List.mem_of_getElem? (i := 13) (by decide +kernel), List.mem_of_getElem? (i := 506) (by decide +kernel), List.mem_of_getElem? (i := 507) (by decide +kernel)⟩
theorem lw_p38 : lw_okq (⟨"RainShelves$Sets", "fewestShelves", "()I"⟩, 6) := ⟨⟨by decide +kernel, by decide +kernel⟩, List.mem_of_getElem? (i := 177) (by decide +kernel), List.mem_of_getElem? (i := 514) (by decide +kernel), List.mem_of_getElem? (i := 515) (by decide +kernel)⟩
theorem lw_p39 : lw_okq (⟨"RainShelves$Sets", "isFilled", "(I)Z"⟩, 6) := ⟨⟨by decide +kernel, by decide +kernel⟩, List.mem_of_getElem? (i := 177) (by decide +kernel), List.mem_of_getElem? (i := 518) (by decide +kernel), List.mem_of_getElem? (i := 519) (by decide +kernel)⟩
theorem lw_p40 : lw_okq (⟨"RainShelves$Sets", "fewestFor", "(I)I"⟩, 6) := ⟨⟨by decide +kernel, by decide +kernel⟩, List.mem_of_getElem? (i := 177) (by decide +kernel), List.mem_of_getElem? (i := 522) (by decide +kernel), List.mem_of_getElem? (i := 523) (by decide +kernel)⟩
theorem lw_p41 : lw_okq (⟨"RainShelves$Sets", "fitsOneShelf", "(I)Z"⟩, 6) := ⟨⟨by decide +kernel, by decide +kernel⟩, List.mem_of_getElem? (i := 177) (by decide +kernel), List.mem_of_getElem? (i := 526) (by decide +kernel), List.mem_of_getElem? (i := 527) (by decide +kernel)⟩
theorem lw_p42 : lw_okq (⟨"RainShelves$Sets", "mostBeside", "(I)I"⟩, 6) := ⟨⟨by decide +kernel, by decide +kernel⟩, List.mem_of_getElem? (i := 177) (by decide +kernel), List.mem_of_getElem? (i := 535) (by decide +kernel), List.mem_of_getElem? (i := 536) (by decide +kernel)⟩
theorem lw_p43 : lw_okq (⟨"RainShelves$Frost", "reckon", "(III)V"⟩, 3) := ⟨⟨by decide +kernel, by decide +kernel⟩, List.mem_of_getElem? (i := 202) (by decide +kernel), List.mem_of_getElem? (i := 545) (by decide +kernel), List.mem_of_getElem? (i := 546) (by decide +kernel)⟩
theorem lw_p44 : lw_okq (⟨"RainShelves$Frost", "addPan", "(I)V"⟩, 3) := ⟨⟨by decide +kernel, by decide +kernel⟩, List.mem_of_getElem? (i := 202) (by decide +kernel), List.mem_of_getElem? (i := 549) (by decide +kernel), List.mem_of_getElem? (i := 550) (by decide +kernel)⟩
theorem lw_p45 : lw_okq (⟨"RainShelves$Frost", "reduce", "(I)V"⟩, 3) := ⟨⟨by decide +kernel, by decide +kernel⟩, List.mem_of_getElem? (i := 202) (by decide +kernel), List.mem_of_getElem? (i := 554) (by decide +kernel), List.mem_of_getElem? (i := 555) (by decide +kernel)⟩
theorem lw_p46 : lw_okq (⟨"RainShelves", "rateOfPan", "(I)I"⟩, 10) := ⟨⟨by decide +kernel, by decide +kernel⟩, List.mem_of_getElem? (i := 13) (by decide +kernel), List.mem_of_getElem? (i := 563) (by decide +kernel), List.mem_of_getElem? (i := 564) (by decide +kernel)⟩
theorem lw_p47 : lw_okq (⟨"RainShelves", "rateOfSaucer", "(I)I"⟩, 10) := ⟨⟨by decide +kernel, by decide +kernel⟩, List.mem_of_getElem? (i := 13) (by decide +kernel), List.mem_of_getElem? (i := 567) (by decide +kernel), List.mem_of_getElem? (i := 568) (by decide +kernel)⟩
def lw_privs_3 : List (MethodName × Nat) := [(⟨"RainShelves$House", "hailPans", "()I"⟩, 8), (⟨"RainShelves$Sets", "bestFire", "(II)I"⟩, 6), (⟨"RainShelves$Sets", "isBetterFire", "(III)Z"⟩, 6), (⟨"RainShelves$House", "spoonsOfLesser", "(IIII)I"⟩, 8), (⟨"RainShelves$Levels", "append", "(III)Z"⟩, 4), (⟨"RainShelves", "areLevelsSo", "(II)Z"⟩, 10), (⟨"RainShelves$Sets", "fewestShelves", "()I"⟩, 6), (⟨"RainShelves$Sets", "isFilled", "(I)Z"⟩, 6), (⟨"RainShelves$Sets", "fewestFor", "(I)I"⟩, 6), (⟨"RainShelves$Sets", "fitsOneShelf", "(I)Z"⟩, 6), (⟨"RainShelves$Sets", "mostBeside", "(I)I"⟩, 6), (⟨"RainShelves$Frost", "reckon", "(III)V"⟩, 3), (⟨"RainShelves$Frost", "addPan", "(I)V"⟩, 3), (⟨"RainShelves$Frost", "reduce", "(I)V"⟩, 3), (⟨"RainShelves", "rateOfPan", "(I)I"⟩, 10), (⟨"RainShelves", "rateOfSaucer", "(I)I"⟩, 10)]
theorem lw_r3 : ∀ q ∈ lw_privs_3, lw_okq q := List.forall_mem_cons.mpr ⟨lw_p32, List.forall_mem_cons.mpr ⟨lw_p33, List.forall_mem_cons.mpr ⟨lw_p34, List.forall_mem_cons.mpr ⟨lw_p35, List.forall_mem_cons.mpr ⟨lw_p36, List.forall_mem_cons.mpr ⟨lw_p37, List.forall_mem_cons.mpr ⟨lw_p38, List.forall_mem_cons.mpr ⟨lw_p39, List.forall_mem_cons.mpr ⟨lw_p40, List.forall_mem_cons.mpr ⟨lw_p41, List.forall_mem_cons.mpr ⟨lw_p42, List.forall_mem_cons.mpr ⟨lw_p43, List.forall_mem_cons.mpr ⟨lw_p44, List.forall_mem_cons.mpr ⟨lw_p45, List.forall_mem_cons.mpr ⟨lw_p46, List.forall_mem_cons.mpr ⟨lw_p47, fun _ h => absurd h List.not_mem_nil⟩⟩⟩⟩⟩⟩⟩⟩⟩⟩⟩⟩⟩⟩⟩⟩
theorem lw_p48 : lw_okq (⟨"RainShelves", "rateOfBottle", "(I)I"⟩, 10) := ⟨⟨by decide +kernel, by decide +kernel⟩, List.mem_of_getElem? (i := 13) (by decide +kernel), List.mem_of_getElem? (i := 572) (by decide +kernel), List.mem_of_getElem? (i := 573) (by decide +kernel)⟩
theorem lw_p49 : lw_okq (⟨"RainShelves", "rateOfFont", "(I)I"⟩, 10) := ⟨⟨by decide +kernel, by decide +kernel⟩, List.mem_of_getElem? (i := 13) (by decide +kernel), List.mem_of_getElem? (i := 577) (by decide +kernel), List.mem_of_getElem? (i := 578) (by decide +kernel)⟩
theorem lw_p50 : lw_okq (⟨"RainShelves", "rateOfPhial", "(I)I"⟩, 10) := ⟨⟨by decide +kernel, by decide +kernel⟩, List.mem_of_getElem? (i := 13) (by decide +kernel), List.mem_of_getElem? (i := 582) (by decide +kernel), List.mem_of_getElem? (i := 583) (by decide +kernel)⟩
theorem lw_p51 : lw_okq (⟨"RainShelves", "rateOfUrn", "(I)I"⟩, 10) := ⟨⟨by decide +kernel, by decide +kernel⟩, List.mem_of_getElem? (i := 13) (by decide +kernel), List.mem_of_getElem? (i := 587) (by decide +kernel), List.mem_of_getElem? (i := 588) (by decide +kernel)⟩
theorem lw_p52 : lw_okq (⟨"RainShelvesModel", "reads", "()Z"⟩, 19) := ⟨⟨by decide +kernel, by decide +kernel⟩, List.mem_of_getElem? (i := 609) (by decide +kernel), List.mem_of_getElem? (i := 615) (by decide +kernel), List.mem_of_getElem? (i := 616) (by decide +kernel)⟩
theorem lw_p53 : lw_okq (⟨"RainShelvesModel", "token", "()V"⟩, 19) := ⟨⟨by decide +kernel, by decide +kernel⟩, List.mem_of_getElem? (i := 609) (by decide +kernel), List.mem_of_getElem? (i := 619) (by decide +kernel), List.mem_of_getElem? (i := 620) (by decide +kernel)⟩
theorem lw_p54 : lw_okq (⟨"RainShelvesModel", "letterAt", "(I)I"⟩, 19) := ⟨⟨by decide +kernel, by decide +kernel⟩, List.mem_of_getElem? (i := 609) (by decide +kernel), List.mem_of_getElem? (i := 623) (by decide +kernel), List.mem_of_getElem? (i := 624) (by decide +kernel)⟩
theorem lw_p55 : lw_okq (⟨"RainShelvesModel", "readsItem", "()Z"⟩, 19) := ⟨⟨by decide +kernel, by decide +kernel⟩, List.mem_of_getElem? (i := 609) (by decide +kernel), List.mem_of_getElem? (i := 633) (by decide +kernel), List.mem_of_getElem? (i := 634) (by decide +kernel)⟩
theorem lw_p56 : lw_okq (⟨"RainShelvesModel", "number", "(III)Z"⟩, 19) := ⟨⟨by decide +kernel, by decide +kernel⟩, List.mem_of_getElem? (i := 609) (by decide +kernel), List.mem_of_getElem? (i := 637) (by decide +kernel), List.mem_of_getElem? (i := 638) (by decide +kernel)⟩
theorem lw_p57 : lw_okq (⟨"RainShelvesModel", "once", "(IIII)Z"⟩, 19) := ⟨⟨by decide +kernel, by decide +kernel⟩, List.mem_of_getElem? (i := 609) (by decide +kernel), List.mem_of_getElem? (i := 641) (by decide +kernel), List.mem_of_getElem? (i := 642) (by decide +kernel)⟩
theorem lw_p58 : lw_okq (⟨"RainShelvesModel", "tells", "()V"⟩, 19) := ⟨⟨by decide +kernel, by decide +kernel⟩, List.mem_of_getElem? (i := 609) (by decide +kernel), List.mem_of_getElem? (i := 645) (by decide +kernel), List.mem_of_getElem? (i := 646) (by decide +kernel)⟩
theorem lw_p59 : lw_okq (⟨"RainShelvesModel", "isPan", "(I)Z"⟩, 19) := ⟨⟨by decide +kernel, by decide +kernel⟩, List.mem_of_getElem? (i := 609) (by decide +kernel), List.mem_of_getElem? (i := 723) (by decide +kernel), List.mem_of_getElem? (i := 724) (by decide +kernel)⟩
theorem lw_p60 : lw_okq (⟨"RainShelvesModel", "full", "(I)I"⟩, 19) := ⟨⟨by decide +kernel, by decide +kernel⟩, List.mem_of_getElem? (i := 609) (by decide +kernel), List.mem_of_getElem? (i := 727) (by decide +kernel), List.mem_of_getElem? (i := 728) (by decide +kernel)⟩
theorem lw_p61 : lw_okq (⟨"RainShelvesModel", "isRead", "(I)Z"⟩, 19) := ⟨⟨by decide +kernel, by decide +kernel⟩, List.mem_of_getElem? (i := 609) (by decide +kernel), List.mem_of_getElem? (i := 731) (by decide +kernel), List.mem_of_getElem? (i := 732) (by decide +kernel)⟩
theorem lw_p62 : lw_okq (⟨"RainShelvesModel", "all", "()I"⟩, 19) := ⟨⟨by decide +kernel, by decide +kernel⟩, List.mem_of_getElem? (i := 609) (by decide +kernel), List.mem_of_getElem? (i := 743) (by decide +kernel), List.mem_of_getElem? (i := 744) (by decide +kernel)⟩
theorem lw_p63 : lw_okq (⟨"RainShelvesModel", "allRead", "()I"⟩, 19) := ⟨⟨by decide +kernel, by decide +kernel⟩, List.mem_of_getElem? (i := 609) (by decide +kernel), List.mem_of_getElem? (i := 747) (by decide +kernel), List.mem_of_getElem? (i := 748) (by decide +kernel)⟩
def lw_privs_4 : List (MethodName × Nat) := [(⟨"RainShelves", "rateOfBottle", "(I)I"⟩, 10), (⟨"RainShelves", "rateOfFont", "(I)I"⟩, 10), (⟨"RainShelves", "rateOfPhial", "(I)I"⟩, 10), (⟨"RainShelves", "rateOfUrn", "(I)I"⟩, 10), (⟨"RainShelvesModel", "reads", "()Z"⟩, 19), (⟨"RainShelvesModel", "token", "()V"⟩, 19), (⟨"RainShelvesModel", "letterAt", "(I)I"⟩, 19), (⟨"RainShelvesModel", "readsItem", "()Z"⟩, 19), (⟨"RainShelvesModel", "number", "(III)Z"⟩, 19), (⟨"RainShelvesModel", "once", "(IIII)Z"⟩, 19), (⟨"RainShelvesModel", "tells", "()V"⟩, 19), (⟨"RainShelvesModel", "isPan", "(I)Z"⟩, 19), (⟨"RainShelvesModel", "full", "(I)I"⟩, 19), (⟨"RainShelvesModel", "isRead", "(I)Z"⟩, 19), (⟨"RainShelvesModel", "all", "()I"⟩, 19), (⟨"RainShelvesModel", "allRead", "()I"⟩, 19)]
theorem lw_r4 : ∀ q ∈ lw_privs_4, lw_okq q := List.forall_mem_cons.mpr ⟨lw_p48, List.forall_mem_cons.mpr ⟨lw_p49, List.forall_mem_cons.mpr ⟨lw_p50, List.forall_mem_cons.mpr ⟨lw_p51, List.forall_mem_cons.mpr ⟨lw_p52, List.forall_mem_cons.mpr ⟨lw_p53, List.forall_mem_cons.mpr ⟨lw_p54, List.forall_mem_cons.mpr ⟨lw_p55, List.forall_mem_cons.mpr ⟨lw_p56, List.forall_mem_cons.mpr ⟨lw_p57, List.forall_mem_cons.mpr ⟨lw_p58, List.forall_mem_cons.mpr ⟨lw_p59, List.forall_mem_cons.mpr ⟨lw_p60, List.forall_mem_cons.mpr ⟨lw_p61, List.forall_mem_cons.mpr ⟨lw_p62, List.forall_mem_cons.mpr ⟨lw_p63, fun _ h => absurd h List.not_mem_nil⟩⟩⟩⟩⟩⟩⟩⟩⟩⟩⟩⟩⟩⟩⟩⟩
theorem lw_p64 : lw_okq (⟨"RainShelvesModel", "wettest", "()I"⟩, 19) := ⟨⟨by decide +kernel, by decide +kernel⟩, List.mem_of_getElem? (i := 609) (by decide +kernel), List.mem_of_getElem? (i := 751) (by decide +kernel), List.mem_of_getElem? (i := 752) (by decide +kernel)⟩
theorem lw_p65 : lw_okq (⟨"RainShelvesModel", "keeps", "()V"⟩, 19) := ⟨⟨by decide +kernel, by decide +kernel⟩, List.mem_of_getElem? (i := 609) (by decide +kernel), List.mem_of_getElem? (i := 759) (by decide +kernel), List.mem_of_getElem? (i := 760) (by decide +kernel)⟩
theorem lw_p66 : lw_okq (⟨"RainShelvesModel", "goes", "(III)I"⟩, 19) := ⟨⟨by decide +kernel, by decide +kernel⟩, List.mem_of_getElem? (i := 609) (by decide +kernel), List.mem_of_getElem? (i := 763) (by decide +kernel), List.mem_of_getElem? (i := 764) (by decide +kernel)⟩
theorem lw_p67 : lw_okq (⟨"RainShelvesModel", "takes", "(I)I"⟩, 19) := ⟨⟨by decide +kernel, by decide +kernel⟩, List.mem_of_getElem? (i := 609) (by decide +kernel), List.mem_of_getElem? (i := 767) (by decide +kernel), List.mem_of_getElem? (i := 768) (by decide +kernel)⟩
theorem lw_p68 : lw_okq (⟨"RainShelvesModel", "springs", "()I"⟩, 19) := ⟨⟨by decide +kernel, by decide +kernel⟩, List.mem_of_getElem? (i := 609) (by decide +kernel), List.mem_of_getElem? (i := 779) (by decide +kernel), List.mem_of_getElem? (i := 780) (by decide +kernel)⟩
theorem lw_p69 : lw_okq (⟨"RainShelvesModel", "remembers", "()V"⟩, 19) := ⟨⟨by decide +kernel, by decide +kernel⟩, List.mem_of_getElem? (i := 609) (by decide +kernel), List.mem_of_getElem? (i := 795) (by decide +kernel), List.mem_of_getElem? (i := 796) (by decide +kernel)⟩
theorem lw_p70 : lw_okq (⟨"RainShelvesModel", "lets", "()V"⟩, 19) := ⟨⟨by decide +kernel, by decide +kernel⟩, List.mem_of_getElem? (i := 609) (by decide +kernel), List.mem_of_getElem? (i := 799) (by decide +kernel), List.mem_of_getElem? (i := 800) (by decide +kernel)⟩
theorem lw_p71 : lw_okq (⟨"RainShelvesModel", "isSo", "()Z"⟩, 19) := ⟨⟨by decide +kernel, by decide +kernel⟩, List.mem_of_getElem? (i := 609) (by decide +kernel), List.mem_of_getElem? (i := 834) (by decide +kernel), List.mem_of_getElem? (i := 835) (by decide +kernel)⟩
theorem lw_p72 : lw_okq (⟨"RainShelvesModel", "stand", "(I)Z"⟩, 19) := ⟨⟨by decide +kernel, by decide +kernel⟩, List.mem_of_getElem? (i := 609) (by decide +kernel), List.mem_of_getElem? (i := 842) (by decide +kernel), List.mem_of_getElem? (i := 843) (by decide +kernel)⟩
theorem lw_p73 : lw_okq (⟨"RainShelvesModel", "isHail", "(I)Z"⟩, 19) := ⟨⟨by decide +kernel, by decide +kernel⟩, List.mem_of_getElem? (i := 609) (by decide +kernel), List.mem_of_getElem? (i := 846) (by decide +kernel), List.mem_of_getElem? (i := 847) (by decide +kernel)⟩
def lw_privs_5 : List (MethodName × Nat) := [(⟨"RainShelvesModel", "wettest", "()I"⟩, 19), (⟨"RainShelvesModel", "keeps", "()V"⟩, 19), (⟨"RainShelvesModel", "goes", "(III)I"⟩, 19), (⟨"RainShelvesModel", "takes", "(I)I"⟩, 19), (⟨"RainShelvesModel", "springs", "()I"⟩, 19), (⟨"RainShelvesModel", "remembers", "()V"⟩, 19), (⟨"RainShelvesModel", "lets", "()V"⟩, 19), (⟨"RainShelvesModel", "isSo", "()Z"⟩, 19), (⟨"RainShelvesModel", "stand", "(I)Z"⟩, 19), (⟨"RainShelvesModel", "isHail", "(I)Z"⟩, 19)]
theorem lw_r5 : ∀ q ∈ lw_privs_5, lw_okq q := List.forall_mem_cons.mpr ⟨lw_p64, List.forall_mem_cons.mpr ⟨lw_p65, List.forall_mem_cons.mpr ⟨lw_p66, List.forall_mem_cons.mpr ⟨lw_p67, List.forall_mem_cons.mpr ⟨lw_p68, List.forall_mem_cons.mpr ⟨lw_p69, List.forall_mem_cons.mpr ⟨lw_p70, List.forall_mem_cons.mpr ⟨lw_p71, List.forall_mem_cons.mpr ⟨lw_p72, List.forall_mem_cons.mpr ⟨lw_p73, fun _ h => absurd h List.not_mem_nil⟩⟩⟩⟩⟩⟩⟩⟩⟩⟩
def lw_privs : List (MethodName × Nat) := lw_privs_1 ++ (lw_privs_2 ++ (lw_privs_3 ++ (lw_privs_4 ++ (lw_privs_5))))
def lw_tbl : List Cond := k2_sels lw_privs ++ tables_1
theorem lw_privs_ok : ∀ q ∈ lw_privs, lw_okq q := by
  show ∀ q ∈ lw_privs_1 ++ (lw_privs_2 ++ (lw_privs_3 ++ (lw_privs_4 ++ (lw_privs_5)))), lw_okq q
  exact List.forall_mem_append.mpr ⟨lw_r1, List.forall_mem_append.mpr ⟨lw_r2, List.forall_mem_append.mpr ⟨lw_r3, List.forall_mem_append.mpr ⟨lw_r4, lw_r5⟩⟩⟩⟩
-- ===== end of PART A; then your names; then what follows =====
end
section
theorem goodIn_r {big : List Cond} (ws : List Cond) (ps : List Nat) (hp : ws = ps.filterMap (fun i => big[i]?)) (h : ws.all goodWord = true) : GoodIn big ws := by
  intro w hw
  have h1 := List.all_eq_true.mp h w hw
  rw [hp] at hw
  obtain ⟨i, -, hi⟩ := List.mem_filterMap.mp hw
  have hm : w ∈ big := by first | exact List.mem_of_getElem? hi | exact List.getElem?_mem hi
  exact ⟨hm, good_of_word h1⟩
theorem goodIn_app {big a b : List Cond} (ha : GoodIn big a) (hb : GoodIn big b) : GoodIn big (a ++ b) := fun w h => (List.mem_append.mp h).elim (ha w) (hb w)
theorem goodIn_ca {big a b : List Cond} {c : Cond} (ha : GoodIn big (c :: a)) (hb : GoodIn big b) : GoodIn big (c :: (a ++ b)) := fun w h => (List.mem_cons.mp h).elim (fun e => ha w (List.mem_cons.mpr (Or.inl e))) (fun h => (List.mem_append.mp h).elim (fun h => ha w (List.mem_cons.mpr (Or.inr h))) (hb w))
theorem goodIn_sub {big ws : List Cond} (hm : ∀ w ∈ ws, w ∈ big) (h : ws.all goodWord = true) : GoodIn big ws := fun w hw => ⟨hm w hw, good_of_word (List.all_eq_true.mp h w hw)⟩
def RX0 : String := "RainShelves$Frost"
def TX0 : u_T := fun k => match k with
  | 0 => ("RainShelves$Frost", "cases", "[I", true)
  | 1 => ("RainShelves$Frost", "upper", "I", false)
  | _ => ("RainShelves$Frost", "lower", "I", false)
def tyX0 : Nat → FieldType := fun k => match k with
  | 0 => .array .int
  | 1 => .int
  | _ => .int
abbrev wsX00 : List Cond := u_ws RX0 TX0 3
theorem nmX0 : ∀ a, a < 3 → ∀ b, b < 3 → a ≠ b → (TX0 a).2.1 ≠ (TX0 b).2.1 := by decide +kernel
theorem tyX0_ok : ∀ k, k < 3 → parseFieldDescriptor (TX0 k).2.2.1 = some (tyX0 k) := by decide +kernel
abbrev cX0_init : ByteArray := prog_2_method_1_code
def yX0_init : MethodName := ⟨RX0, "<init>", "()V"⟩
abbrev cX0_reckon : ByteArray := prog_2_method_2_code
def yX0_reckon : MethodName := ⟨RX0, "reckon", "(III)V"⟩
abbrev cX0_addPan : ByteArray := prog_2_method_3_code
def yX0_addPan : MethodName := ⟨RX0, "addPan", "(I)V"⟩
abbrev cX0_reduce : ByteArray := prog_2_method_4_code
def yX0_reduce : MethodName := ⟨RX0, "reduce", "(I)V"⟩
def RX1 : String := "RainShelves$History"
def TX1 : u_T := fun k => match k with
  | 0 => ("RainShelves$History", "rows", "[LRainShelves$Rain;", true)
  | 1 => ("RainShelves$History", "known", "I", false)
  | _ => ("RainShelves$History", "next", "I", false)
def tyX1 : Nat → FieldType := fun k => match k with
  | 0 => .array (.object "RainShelves$Rain")
  | 1 => .int
  | _ => .int
abbrev wsX10 : List Cond := u_ws RX1 TX1 3
theorem nmX1 : ∀ a, a < 3 → ∀ b, b < 3 → a ≠ b → (TX1 a).2.1 ≠ (TX1 b).2.1 := by decide +kernel
theorem tyX1_ok : ∀ k, k < 3 → parseFieldDescriptor (TX1 k).2.2.1 = some (tyX1 k) := by decide +kernel
abbrev cX1_init : ByteArray := prog_3_method_1_code
def yX1_init : MethodName := ⟨RX1, "<init>", "(LRainShelves$House;)V"⟩
abbrev cX1_remember : ByteArray := prog_3_method_2_code
def yX1_remember : MethodName := ⟨RX1, "remember", "(LRainShelves$Rain;)V"⟩
abbrev cX1_restore : ByteArray := prog_3_method_3_code
def yX1_restore : MethodName := ⟨RX1, "restore", "(LRainShelves$Rain;)V"⟩
def RX2 : String := "RainShelves$House"
def TX2 : u_T := fun k => match k with
  | 0 => ("RainShelves$House", "pans", "I", false)
  | 1 => ("RainShelves$House", "least", "I", false)
  | 2 => ("RainShelves$House", "shelf", "I", false)
  | 3 => ("RainShelves$House", "years", "[I", true)
  | 4 => ("RainShelves$House", "spoons", "[I", true)
  | 5 => ("RainShelves$House", "shrinks", "[I", true)
  | 6 => ("RainShelves$House", "sorts", "[I", true)
  | _ => ("RainShelves$House", "byAge", "[I", true)
def tyX2 : Nat → FieldType := fun k => match k with
  | 0 => .int
  | 1 => .int
  | 2 => .int
  | 3 => .array .int
  | 4 => .array .int
  | 5 => .array .int
  | 6 => .array .int
  | _ => .array .int
abbrev wsX20 : List Cond := u_ws RX2 TX2 8
theorem nmX2 : ∀ a, a < 8 → ∀ b, b < 8 → a ≠ b → (TX2 a).2.1 ≠ (TX2 b).2.1 := by decide +kernel
theorem tyX2_ok : ∀ k, k < 8 → parseFieldDescriptor (TX2 k).2.2.1 = some (tyX2 k) := by decide +kernel
abbrev cX2_init : ByteArray := prog_4_method_1_code
def yX2_init : MethodName := ⟨RX2, "<init>", "()V"⟩
abbrev cX2_empty : ByteArray := prog_4_method_2_code
def yX2_empty : MethodName := ⟨RX2, "empty", "()V"⟩
abbrev cX2_has : ByteArray := prog_4_method_3_code
def yX2_has : MethodName := ⟨RX2, "has", "(I)Z"⟩
abbrev cX2_append : ByteArray := prog_4_method_4_code
def yX2_append : MethodName := ⟨RX2, "append", "(IIII)Z"⟩
abbrev cX2_become : ByteArray := prog_4_method_5_code
def yX2_become : MethodName := ⟨RX2, "become", "(LRainShelves$House;)V"⟩
abbrev cX2_hailPans : ByteArray := prog_4_method_6_code
def yX2_hailPans : MethodName := ⟨RX2, "hailPans", "()I"⟩
abbrev cX2_spoonsOfLesser : ByteArray := prog_4_method_7_code
def yX2_spoonsOfLesser : MethodName := ⟨RX2, "spoonsOfLesser", "(IIII)I"⟩
def RX3 : String := "RainShelves$Levels"
def TX3 : u_T := fun k => match k with
  | 0 => ("RainShelves$Levels", "springs", "[I", true)
  | 1 => ("RainShelves$Levels", "pans", "[I", true)
  | 2 => ("RainShelves$Levels", "spoons", "[I", true)
  | _ => ("RainShelves$Levels", "size", "I", false)
def tyX3 : Nat → FieldType := fun k => match k with
  | 0 => .array .int
  | 1 => .array .int
  | 2 => .array .int
  | _ => .int
abbrev wsX30 : List Cond := u_ws RX3 TX3 4
theorem nmX3 : ∀ a, a < 4 → ∀ b, b < 4 → a ≠ b → (TX3 a).2.1 ≠ (TX3 b).2.1 := by decide +kernel
theorem tyX3_ok : ∀ k, k < 4 → parseFieldDescriptor (TX3 k).2.2.1 = some (tyX3 k) := by decide +kernel
abbrev cX3_init : ByteArray := prog_5_method_1_code
def yX3_init : MethodName := ⟨RX3, "<init>", "()V"⟩
abbrev cX3_append : ByteArray := prog_5_method_2_code
def yX3_append : MethodName := ⟨RX3, "append", "(III)Z"⟩
def RX4 : String := "RainShelves$Rain"
def TX4 : u_T := fun k => match k with
  | 0 => ("RainShelves$Rain", "house", "LRainShelves$House;", true)
  | 1 => ("RainShelves$Rain", "spoons", "[I", true)
  | 2 => ("RainShelves$Rain", "springs", "I", false)
  | _ => ("RainShelves$Rain", "lost", "I", false)
def tyX4 : Nat → FieldType := fun k => match k with
  | 0 => .object "RainShelves$House"
  | 1 => .array .int
  | 2 => .int
  | _ => .int
abbrev wsX40 : List Cond := u_ws RX4 TX4 4
theorem nmX4 : ∀ a, a < 4 → ∀ b, b < 4 → a ≠ b → (TX4 a).2.1 ≠ (TX4 b).2.1 := by decide +kernel
theorem tyX4_ok : ∀ k, k < 4 → parseFieldDescriptor (TX4 k).2.2.1 = some (tyX4 k) := by decide +kernel
abbrev cX4_init : ByteArray := prog_6_method_1_code
def yX4_init : MethodName := ⟨RX4, "<init>", "(LRainShelves$House;)V"⟩
abbrev cX4_fill : ByteArray := prog_6_method_2_code
def yX4_fill : MethodName := ⟨RX4, "fill", "()V"⟩
abbrev cX4_become : ByteArray := prog_6_method_3_code
def yX4_become : MethodName := ⟨RX4, "become", "(LRainShelves$Rain;)V"⟩
abbrev cX4_at : ByteArray := prog_6_method_4_code
def yX4_at : MethodName := ⟨RX4, "at", "(II)I"⟩
abbrev cX4_amount : ByteArray := prog_6_method_5_code
def yX4_amount : MethodName := ⟨RX4, "amount", "(II)I"⟩
abbrev cX4_inPan : ByteArray := prog_6_method_6_code
def yX4_inPan : MethodName := ⟨RX4, "inPan", "(I)I"⟩
abbrev cX4_inAll : ByteArray := prog_6_method_7_code
def yX4_inAll : MethodName := ⟨RX4, "inAll", "()I"⟩
abbrev cX4_tasteOf : ByteArray := prog_6_method_8_code
def yX4_tasteOf : MethodName := ⟨RX4, "tasteOf", "(I)I"⟩
abbrev cX4_whereIs : ByteArray := prog_6_method_9_code
def yX4_whereIs : MethodName := ⟨RX4, "whereIs", "(I)I"⟩
abbrev cX4_wettest : ByteArray := prog_6_method_10_code
def yX4_wettest : MethodName := ⟨RX4, "wettest", "()I"⟩
abbrev cX4_ofYear : ByteArray := prog_6_method_11_code
def yX4_ofYear : MethodName := ⟨RX4, "ofYear", "(I)I"⟩
abbrev cX4_take : ByteArray := prog_6_method_12_code
def yX4_take : MethodName := ⟨RX4, "take", "(III)I"⟩
abbrev cX4_passSpring : ByteArray := prog_6_method_13_code
def yX4_passSpring : MethodName := ⟨RX4, "passSpring", "()I"⟩
abbrev cX4_canBeRead : ByteArray := prog_6_method_14_code
def yX4_canBeRead : MethodName := ⟨RX4, "canBeRead", "(I)Z"⟩
abbrev cX4_canBeReadIn : ByteArray := prog_6_method_15_code
def yX4_canBeReadIn : MethodName := ⟨RX4, "canBeReadIn", "(II)Z"⟩
abbrev cX4_readable : ByteArray := prog_6_method_16_code
def yX4_readable : MethodName := ⟨RX4, "readable", "()I"⟩
def RX5 : String := "RainShelves$Sets"
def TX5 : u_T := fun k => match k with
  | 0 => ("RainShelves$Sets", "weights", "[I", true)
  | 1 => ("RainShelves$Sets", "fewest", "[I", true)
  | 2 => ("RainShelves$Sets", "size", "I", false)
  | 3 => ("RainShelves$Sets", "shelf", "I", false)
  | 4 => ("RainShelves$Sets", "hail", "I", false)
  | _ => ("RainShelves$Sets", "filled", "I", false)
def tyX5 : Nat → FieldType := fun k => match k with
  | 0 => .array .int
  | 1 => .array .int
  | 2 => .int
  | 3 => .int
  | 4 => .int
  | _ => .int
abbrev wsX50 : List Cond := u_ws RX5 TX5 6
theorem nmX5 : ∀ a, a < 6 → ∀ b, b < 6 → a ≠ b → (TX5 a).2.1 ≠ (TX5 b).2.1 := by decide +kernel
theorem tyX5_ok : ∀ k, k < 6 → parseFieldDescriptor (TX5 k).2.2.1 = some (tyX5 k) := by decide +kernel
abbrev cX5_init : ByteArray := prog_7_method_1_code
def yX5_init : MethodName := ⟨RX5, "<init>", "()V"⟩
abbrev cX5_weigh : ByteArray := prog_7_method_2_code
def yX5_weigh : MethodName := ⟨RX5, "weigh", "(LRainShelves$House;LRainShelves$Rain;)V"⟩
abbrev cX5_countLeft : ByteArray := prog_7_method_3_code
def yX5_countLeft : MethodName := ⟨RX5, "countLeft", "(II)I"⟩
abbrev cX5_bestFire : ByteArray := prog_7_method_4_code
def yX5_bestFire : MethodName := ⟨RX5, "bestFire", "(II)I"⟩
abbrev cX5_isBetterFire : ByteArray := prog_7_method_5_code
def yX5_isBetterFire : MethodName := ⟨RX5, "isBetterFire", "(III)Z"⟩
abbrev cX5_fitsOneShelf : ByteArray := prog_7_method_6_code
def yX5_fitsOneShelf : MethodName := ⟨RX5, "fitsOneShelf", "(I)Z"⟩
abbrev cX5_isFilled : ByteArray := prog_7_method_7_code
def yX5_isFilled : MethodName := ⟨RX5, "isFilled", "(I)Z"⟩
abbrev cX5_fewestShelves : ByteArray := prog_7_method_8_code
def yX5_fewestShelves : MethodName := ⟨RX5, "fewestShelves", "()I"⟩
abbrev cX5_fewestFor : ByteArray := prog_7_method_9_code
def yX5_fewestFor : MethodName := ⟨RX5, "fewestFor", "(I)I"⟩
abbrev cX5_mostBeside : ByteArray := prog_7_method_10_code
def yX5_mostBeside : MethodName := ⟨RX5, "mostBeside", "(I)I"⟩
def RX6 : String := "RainShelves$Text"
def TX6 : u_T := fun k => match k with
  | 0 => ("RainShelves$Text", "letters", "[I", true)
  | 1 => ("RainShelves$Text", "length", "I", false)
  | 2 => ("RainShelves$Text", "draft", "LRainShelves$House;", true)
  | 3 => ("RainShelves$Text", "leastTold", "Z", false)
  | 4 => ("RainShelves$Text", "shelfTold", "Z", false)
  | 5 => ("RainShelves$Text", "place", "I", false)
  | 6 => ("RainShelves$Text", "token", "I", false)
  | 7 => ("RainShelves$Text", "start", "I", false)
  | _ => ("RainShelves$Text", "number", "I", false)
def tyX6 : Nat → FieldType := fun k => match k with
  | 0 => .array .int
  | 1 => .int
  | 2 => .object "RainShelves$House"
  | 3 => .boolean
  | 4 => .boolean
  | 5 => .int
  | 6 => .int
  | 7 => .int
  | _ => .int
abbrev wsX60 : List Cond := u_ws RX6 TX6 9
theorem nmX6 : ∀ a, a < 9 → ∀ b, b < 9 → a ≠ b → (TX6 a).2.1 ≠ (TX6 b).2.1 := by decide +kernel
theorem tyX6_ok : ∀ k, k < 9 → parseFieldDescriptor (TX6 k).2.2.1 = some (tyX6 k) := by decide +kernel
abbrev cX6_init : ByteArray := prog_8_method_1_code
def yX6_init : MethodName := ⟨RX6, "<init>", "()V"⟩
abbrev cX6_append : ByteArray := prog_8_method_2_code
def yX6_append : MethodName := ⟨RX6, "append", "(I)Z"⟩
abbrev cX6_read : ByteArray := prog_8_method_3_code
def yX6_read : MethodName := ⟨RX6, "read", "()I"⟩
abbrev cX6_readItem : ByteArray := prog_8_method_4_code
def yX6_readItem : MethodName := ⟨RX6, "readItem", "()Z"⟩
abbrev cX6_readPan : ByteArray := prog_8_method_5_code
def yX6_readPan : MethodName := ⟨RX6, "readPan", "()Z"⟩
abbrev cX6_readLeast : ByteArray := prog_8_method_6_code
def yX6_readLeast : MethodName := ⟨RX6, "readLeast", "()Z"⟩
abbrev cX6_readShelf : ByteArray := prog_8_method_7_code
def yX6_readShelf : MethodName := ⟨RX6, "readShelf", "()Z"⟩
abbrev cX6_readNumber : ByteArray := prog_8_method_8_code
def yX6_readNumber : MethodName := ⟨RX6, "readNumber", "(II)Z"⟩
abbrev cX6_step : ByteArray := prog_8_method_9_code
def yX6_step : MethodName := ⟨RX6, "step", "()V"⟩
abbrev cX6_digits : ByteArray := prog_8_method_10_code
def yX6_digits : MethodName := ⟨RX6, "digits", "()I"⟩
abbrev cX6_isDigit : ByteArray := prog_8_method_11_code
def yX6_isDigit : MethodName := ⟨RX6, "isDigit", "(I)Z"⟩
def RX7 : String := "RainShelves"
def TX7 : u_T := fun k => match k with
  | 0 => ("RainShelves", "house", "LRainShelves$House;", true)
  | 1 => ("RainShelves", "text", "LRainShelves$Text;", true)
  | 2 => ("RainShelves", "rain", "LRainShelves$Rain;", true)
  | 3 => ("RainShelves", "history", "LRainShelves$History;", true)
  | 4 => ("RainShelves", "images", "[LRainShelves$Rain;", true)
  | 5 => ("RainShelves", "kept", "[Z", true)
  | 6 => ("RainShelves", "told", "LRainShelves$Levels;", true)
  | 7 => ("RainShelves", "sets", "LRainShelves$Sets;", true)
  | 8 => ("RainShelves", "frost", "LRainShelves$Frost;", true)
  | _ => ("RainShelves", "traced", "J", false)
def tyX7 : Nat → FieldType := fun k => match k with
  | 0 => .object "RainShelves$House"
  | 1 => .object "RainShelves$Text"
  | 2 => .object "RainShelves$Rain"
  | 3 => .object "RainShelves$History"
  | 4 => .array (.object "RainShelves$Rain")
  | 5 => .array .boolean
  | 6 => .object "RainShelves$Levels"
  | 7 => .object "RainShelves$Sets"
  | 8 => .object "RainShelves$Frost"
  | _ => .long
abbrev wsX70 : List Cond := u_ws RX7 TX7 10
theorem nmX7 : ∀ a, a < 10 → ∀ b, b < 10 → a ≠ b → (TX7 a).2.1 ≠ (TX7 b).2.1 := by decide +kernel
theorem tyX7_ok : ∀ k, k < 10 → parseFieldDescriptor (TX7 k).2.2.1 = some (tyX7 k) := by decide +kernel
abbrev cX7_init : ByteArray := prog_1_method_1_code
def yX7_init : MethodName := ⟨RX7, "<init>", "()V"⟩
abbrev cX7_type : ByteArray := prog_1_method_2_code
def yX7_type : MethodName := ⟨RX7, "type", "(I)I"⟩
abbrev cX7_clear : ByteArray := prog_1_method_3_code
def yX7_clear : MethodName := ⟨RX7, "clear", "()I"⟩
abbrev cX7_house : ByteArray := prog_1_method_4_code
def yX7_house : MethodName := ⟨RX7, "house", "()I"⟩
abbrev cX7_pan : ByteArray := prog_1_method_5_code
def yX7_pan : MethodName := ⟨RX7, "pan", "(II)I"⟩
abbrev cX7_holds : ByteArray := prog_1_method_6_code
def yX7_holds : MethodName := ⟨RX7, "holds", "(II)I"⟩
abbrev cX7_now : ByteArray := prog_1_method_7_code
def yX7_now : MethodName := ⟨RX7, "now", "(I)I"⟩
abbrev cX7_uses : ByteArray := prog_1_method_8_code
def yX7_uses : MethodName := ⟨RX7, "uses", "(II)I"⟩
abbrev cX7_pours : ByteArray := prog_1_method_9_code
def yX7_pours : MethodName := ⟨RX7, "pours", "(III)I"⟩
abbrev cX7_spring : ByteArray := prog_1_method_10_code
def yX7_spring : MethodName := ⟨RX7, "spring", "()I"⟩
abbrev cX7_splits : ByteArray := prog_1_method_11_code
def yX7_splits : MethodName := ⟨RX7, "splits", "(I)I"⟩
abbrev cX7_undo : ByteArray := prog_1_method_12_code
def yX7_undo : MethodName := ⟨RX7, "undo", "()I"⟩
abbrev cX7_lasts : ByteArray := prog_1_method_13_code
def yX7_lasts : MethodName := ⟨RX7, "lasts", "(I)I"⟩
abbrev cX7_inSprings : ByteArray := prog_1_method_14_code
def yX7_inSprings : MethodName := ⟨RX7, "inSprings", "(II)I"⟩
abbrev cX7_countReadableIn : ByteArray := prog_1_method_15_code
def yX7_countReadableIn : MethodName := ⟨RX7, "countReadableIn", "(I)I"⟩
abbrev cX7_afterSprings : ByteArray := prog_1_method_16_code
def yX7_afterSprings : MethodName := ⟨RX7, "afterSprings", "(III)I"⟩
abbrev cX7_fire : ByteArray := prog_1_method_17_code
def yX7_fire : MethodName := ⟨RX7, "fire", "(II)I"⟩
abbrev cX7_spoil : ByteArray := prog_1_method_18_code
def yX7_spoil : MethodName := ⟨RX7, "spoil", "(I)I"⟩
abbrev cX7_mix : ByteArray := prog_1_method_19_code
def yX7_mix : MethodName := ⟨RX7, "mix", "(III)I"⟩
abbrev cX7_levels : ByteArray := prog_1_method_20_code
def yX7_levels : MethodName := ⟨RX7, "levels", "(III)I"⟩
abbrev cX7_forget : ByteArray := prog_1_method_21_code
def yX7_forget : MethodName := ⟨RX7, "forget", "()I"⟩
abbrev cX7_theft : ByteArray := prog_1_method_22_code
def yX7_theft : MethodName := ⟨RX7, "theft", "(I)I"⟩
abbrev cX7_areLevelsSo : ByteArray := prog_1_method_23_code
def yX7_areLevelsSo : MethodName := ⟨RX7, "areLevelsSo", "(II)Z"⟩
abbrev cX7_shelves : ByteArray := prog_1_method_24_code
def yX7_shelves : MethodName := ⟨RX7, "shelves", "()I"⟩
abbrev cX7_beside : ByteArray := prog_1_method_25_code
def yX7_beside : MethodName := ⟨RX7, "beside", "(I)I"⟩
abbrev cX7_odds : ByteArray := prog_1_method_26_code
def yX7_odds : MethodName := ⟨RX7, "odds", "(III)I"⟩
abbrev cX7_rate : ByteArray := prog_1_method_27_code
def yX7_rate : MethodName := ⟨RX7, "rate", "(II)I"⟩
abbrev cX7_rateOfPan : ByteArray := prog_1_method_28_code
def yX7_rateOfPan : MethodName := ⟨RX7, "rateOfPan", "(I)I"⟩
abbrev cX7_rateOfSaucer : ByteArray := prog_1_method_29_code
def yX7_rateOfSaucer : MethodName := ⟨RX7, "rateOfSaucer", "(I)I"⟩
abbrev cX7_rateOfBottle : ByteArray := prog_1_method_30_code
def yX7_rateOfBottle : MethodName := ⟨RX7, "rateOfBottle", "(I)I"⟩
abbrev cX7_rateOfFont : ByteArray := prog_1_method_31_code
def yX7_rateOfFont : MethodName := ⟨RX7, "rateOfFont", "(I)I"⟩
abbrev cX7_rateOfPhial : ByteArray := prog_1_method_32_code
def yX7_rateOfPhial : MethodName := ⟨RX7, "rateOfPhial", "(I)I"⟩
abbrev cX7_rateOfUrn : ByteArray := prog_1_method_33_code
def yX7_rateOfUrn : MethodName := ⟨RX7, "rateOfUrn", "(I)I"⟩
abbrev cX7_keep : ByteArray := prog_1_method_34_code
def yX7_keep : MethodName := ⟨RX7, "keep", "(I)I"⟩
abbrev cX7_back : ByteArray := prog_1_method_35_code
def yX7_back : MethodName := ⟨RX7, "back", "(I)I"⟩
abbrev cX7_count : ByteArray := prog_1_method_36_code
def yX7_count : MethodName := ⟨RX7, "count", "(I)I"⟩
abbrev cX7_trace : ByteArray := prog_1_method_37_code
def yX7_trace : MethodName := ⟨RX7, "trace", "()J"⟩
abbrev cX7_isWithin : ByteArray := prog_1_method_38_code
def yX7_isWithin : MethodName := ⟨RX7, "isWithin", "(III)Z"⟩
def RX8 : String := "RainShelvesModel"
def TX8 : u_T := fun k => match k with
  | 0 => ("RainShelvesModel", "trace", "J", false)
  | 1 => ("RainShelvesModel", "text", "[I", true)
  | 2 => ("RainShelvesModel", "typed", "I", false)
  | 3 => ("RainShelvesModel", "told", "[I", true)
  | 4 => ("RainShelvesModel", "draft", "[I", true)
  | 5 => ("RainShelvesModel", "s", "[I", true)
  | 6 => ("RainShelvesModel", "past", "[I", true)
  | 7 => ("RainShelvesModel", "known", "I", false)
  | 8 => ("RainShelvesModel", "images", "[I", true)
  | 9 => ("RainShelvesModel", "kept", "[Z", true)
  | 10 => ("RainShelvesModel", "notes", "[I", true)
  | 11 => ("RainShelvesModel", "noted", "[I", true)
  | 12 => ("RainShelvesModel", "many", "I", false)
  | 13 => ("RainShelvesModel", "at", "I", false)
  | 14 => ("RainShelvesModel", "sort", "I", false)
  | 15 => ("RainShelvesModel", "start", "I", false)
  | 16 => ("RainShelvesModel", "value", "I", false)
  | 17 => ("RainShelvesModel", "held", "[I", true)
  | _ => ("RainShelvesModel", "few", "[I", true)
def tyX8 : Nat → FieldType := fun k => match k with
  | 0 => .long
  | 1 => .array .int
  | 2 => .int
  | 3 => .array .int
  | 4 => .array .int
  | 5 => .array .int
  | 6 => .array .int
  | 7 => .int
  | 8 => .array .int
  | 9 => .array .boolean
  | 10 => .array .int
  | 11 => .array .int
  | 12 => .int
  | 13 => .int
  | 14 => .int
  | 15 => .int
  | 16 => .int
  | 17 => .array .int
  | _ => .array .int
abbrev wsX80 : List Cond := u_ws RX8 TX8 19
theorem nmX8 : ∀ a, a < 19 → ∀ b, b < 19 → a ≠ b → (TX8 a).2.1 ≠ (TX8 b).2.1 := by decide +kernel
theorem tyX8_ok : ∀ k, k < 19 → parseFieldDescriptor (TX8 k).2.2.1 = some (tyX8 k) := by decide +kernel
abbrev cX8_init : ByteArray := prog_10_method_1_code
def yX8_init : MethodName := ⟨RX8, "<init>", "()V"⟩
abbrev cX8_in : ByteArray := prog_10_method_3_code
def yX8_in : MethodName := ⟨RX8, "in", "(III)Z"⟩
abbrev cX8_isPan : ByteArray := prog_10_method_4_code
def yX8_isPan : MethodName := ⟨RX8, "isPan", "(I)Z"⟩
abbrev cX8_ones : ByteArray := prog_10_method_5_code
def yX8_ones : MethodName := ⟨RX8, "ones", "(I)I"⟩
abbrev cX8_type : ByteArray := prog_10_method_6_code
def yX8_type : MethodName := ⟨RX8, "type", "(I)I"⟩
abbrev cX8_clear : ByteArray := prog_10_method_7_code
def yX8_clear : MethodName := ⟨RX8, "clear", "()I"⟩
abbrev cX8_letterAt : ByteArray := prog_10_method_8_code
def yX8_letterAt : MethodName := ⟨RX8, "letterAt", "(I)I"⟩
abbrev cX8_isDigit : ByteArray := prog_10_method_9_code
def yX8_isDigit : MethodName := ⟨RX8, "isDigit", "(I)Z"⟩
abbrev cX8_token : ByteArray := prog_10_method_10_code
def yX8_token : MethodName := ⟨RX8, "token", "()V"⟩
abbrev cX8_number : ByteArray := prog_10_method_11_code
def yX8_number : MethodName := ⟨RX8, "number", "(III)Z"⟩
abbrev cX8_once : ByteArray := prog_10_method_12_code
def yX8_once : MethodName := ⟨RX8, "once", "(IIII)Z"⟩
abbrev cX8_readsItem : ByteArray := prog_10_method_13_code
def yX8_readsItem : MethodName := ⟨RX8, "readsItem", "()Z"⟩
abbrev cX8_reads : ByteArray := prog_10_method_14_code
def yX8_reads : MethodName := ⟨RX8, "reads", "()Z"⟩
abbrev cX8_tells : ByteArray := prog_10_method_15_code
def yX8_tells : MethodName := ⟨RX8, "tells", "()V"⟩
abbrev cX8_house : ByteArray := prog_10_method_16_code
def yX8_house : MethodName := ⟨RX8, "house", "()I"⟩
abbrev cX8_full : ByteArray := prog_10_method_17_code
def yX8_full : MethodName := ⟨RX8, "full", "(I)I"⟩
abbrev cX8_isRead : ByteArray := prog_10_method_18_code
def yX8_isRead : MethodName := ⟨RX8, "isRead", "(I)Z"⟩
abbrev cX8_allRead : ByteArray := prog_10_method_19_code
def yX8_allRead : MethodName := ⟨RX8, "allRead", "()I"⟩
abbrev cX8_pan : ByteArray := prog_10_method_20_code
def yX8_pan : MethodName := ⟨RX8, "pan", "(II)I"⟩
abbrev cX8_holds : ByteArray := prog_10_method_21_code
def yX8_holds : MethodName := ⟨RX8, "holds", "(II)I"⟩
abbrev cX8_all : ByteArray := prog_10_method_22_code
def yX8_all : MethodName := ⟨RX8, "all", "()I"⟩
abbrev cX8_wettest : ByteArray := prog_10_method_23_code
def yX8_wettest : MethodName := ⟨RX8, "wettest", "()I"⟩
abbrev cX8_now : ByteArray := prog_10_method_24_code
def yX8_now : MethodName := ⟨RX8, "now", "(I)I"⟩
abbrev cX8_keeps : ByteArray := prog_10_method_25_code
def yX8_keeps : MethodName := ⟨RX8, "keeps", "()V"⟩
abbrev cX8_takes : ByteArray := prog_10_method_26_code
def yX8_takes : MethodName := ⟨RX8, "takes", "(I)I"⟩
abbrev cX8_goes : ByteArray := prog_10_method_27_code
def yX8_goes : MethodName := ⟨RX8, "goes", "(III)I"⟩
abbrev cX8_uses : ByteArray := prog_10_method_28_code
def yX8_uses : MethodName := ⟨RX8, "uses", "(II)I"⟩
abbrev cX8_pours : ByteArray := prog_10_method_29_code
def yX8_pours : MethodName := ⟨RX8, "pours", "(III)I"⟩
abbrev cX8_springs : ByteArray := prog_10_method_30_code
def yX8_springs : MethodName := ⟨RX8, "springs", "()I"⟩
abbrev cX8_spring : ByteArray := prog_10_method_31_code
def yX8_spring : MethodName := ⟨RX8, "spring", "()I"⟩
abbrev cX8_splits : ByteArray := prog_10_method_32_code
def yX8_splits : MethodName := ⟨RX8, "splits", "(I)I"⟩
abbrev cX8_undo : ByteArray := prog_10_method_33_code
def yX8_undo : MethodName := ⟨RX8, "undo", "()I"⟩
abbrev cX8_remembers : ByteArray := prog_10_method_34_code
def yX8_remembers : MethodName := ⟨RX8, "remembers", "()V"⟩
abbrev cX8_lets : ByteArray := prog_10_method_35_code
def yX8_lets : MethodName := ⟨RX8, "lets", "()V"⟩
abbrev cX8_lasts : ByteArray := prog_10_method_36_code
def yX8_lasts : MethodName := ⟨RX8, "lasts", "(I)I"⟩
abbrev cX8_inSprings : ByteArray := prog_10_method_37_code
def yX8_inSprings : MethodName := ⟨RX8, "inSprings", "(II)I"⟩
abbrev cX8_fire : ByteArray := prog_10_method_38_code
def yX8_fire : MethodName := ⟨RX8, "fire", "(II)I"⟩
abbrev cX8_spoil : ByteArray := prog_10_method_39_code
def yX8_spoil : MethodName := ⟨RX8, "spoil", "(I)I"⟩
abbrev cX8_mix : ByteArray := prog_10_method_40_code
def yX8_mix : MethodName := ⟨RX8, "mix", "(III)I"⟩
abbrev cX8_levels : ByteArray := prog_10_method_41_code
def yX8_levels : MethodName := ⟨RX8, "levels", "(III)I"⟩
abbrev cX8_forget : ByteArray := prog_10_method_42_code
def yX8_forget : MethodName := ⟨RX8, "forget", "()I"⟩
abbrev cX8_isSo : ByteArray := prog_10_method_43_code
def yX8_isSo : MethodName := ⟨RX8, "isSo", "()Z"⟩
abbrev cX8_theft : ByteArray := prog_10_method_44_code
def yX8_theft : MethodName := ⟨RX8, "theft", "(I)I"⟩
abbrev cX8_isHail : ByteArray := prog_10_method_45_code
def yX8_isHail : MethodName := ⟨RX8, "isHail", "(I)Z"⟩
abbrev cX8_stand : ByteArray := prog_10_method_46_code
def yX8_stand : MethodName := ⟨RX8, "stand", "(I)Z"⟩
abbrev cX8_shelves : ByteArray := prog_10_method_47_code
def yX8_shelves : MethodName := ⟨RX8, "shelves", "()I"⟩
abbrev cX8_beside : ByteArray := prog_10_method_48_code
def yX8_beside : MethodName := ⟨RX8, "beside", "(I)I"⟩
abbrev cX8_odds : ByteArray := prog_10_method_49_code
def yX8_odds : MethodName := ⟨RX8, "odds", "(III)I"⟩
abbrev cX8_rate : ByteArray := prog_10_method_50_code
def yX8_rate : MethodName := ⟨RX8, "rate", "(II)I"⟩
abbrev cX8_keep : ByteArray := prog_10_method_51_code
def yX8_keep : MethodName := ⟨RX8, "keep", "(I)I"⟩
abbrev cX8_back : ByteArray := prog_10_method_52_code
def yX8_back : MethodName := ⟨RX8, "back", "(I)I"⟩
abbrev cX8_count : ByteArray := prog_10_method_53_code
def yX8_count : MethodName := ⟨RX8, "count", "(I)I"⟩
abbrev cX8_trace : ByteArray := prog_10_method_54_code
def yX8_trace : MethodName := ⟨RX8, "trace", "()J"⟩
def RJ6 : String := "java/lang/Integer"
def TJ6 : u_T := fun k => match k with
  | _ => ("", "", "", false)
def tyJ6 : Nat → FieldType := fun k => match k with
  | _ => .int
abbrev wsJ60 : List Cond := u_ws RJ6 TJ6 0
theorem nmJ6 : ∀ a, a < 0 → ∀ b, b < 0 → a ≠ b → (TJ6 a).2.1 ≠ (TJ6 b).2.1 := by decide +kernel
theorem tyJ6_ok : ∀ k, k < 0 → parseFieldDescriptor (TJ6 k).2.2.1 = some (tyJ6 k) := by decide +kernel
abbrev cJ6_bitCount_0f7a4 : ByteArray := prog_11_method_49_code
def yJ6_bitCount_0f7a4 : MethodName := ⟨RJ6, "bitCount", "(I)I"⟩
def RJ9 : String := "java/lang/Math"
def TJ9 : u_T := fun k => match k with
  | _ => ("", "", "", false)
def tyJ9 : Nat → FieldType := fun k => match k with
  | _ => .int
abbrev wsJ90 : List Cond := u_ws RJ9 TJ9 0
theorem nmJ9 : ∀ a, a < 0 → ∀ b, b < 0 → a ≠ b → (TJ9 a).2.1 ≠ (TJ9 b).2.1 := by decide +kernel
theorem tyJ9_ok : ∀ k, k < 0 → parseFieldDescriptor (TJ9 k).2.2.1 = some (tyJ9 k) := by decide +kernel
abbrev cJ9_max_7cf53 : ByteArray := prog_12_method_65_code
def yJ9_max_7cf53 : MethodName := ⟨RJ9, "max", "(II)I"⟩
abbrev cJ9_min_7cf53 : ByteArray := prog_12_method_69_code
def yJ9_min_7cf53 : MethodName := ⟨RJ9, "min", "(II)I"⟩
def RL : String := "RainShelvesLaw"
abbrev cL_law : ByteArray := code
def yL_law : MethodName := ⟨RL, "law", "([I)Z"⟩
def wsX0_init : List Cond := .code yX0_init cX0_init 1 none :: ([.methodLink RX0 3 objectInit, .instanceMethod objectInit, .code objectInit ⟨#[0xb1]⟩ 1 none, .arrayClass .int, .fieldLink RX0 9 "RainShelves$Frost" "cases" "[I"] ++ wsX00)
def wsX0_addPan : List Cond := .code yX0_addPan cX0_addPan 3 none :: ([.fieldLink RX0 9 "RainShelves$Frost" "cases" "[I"] ++ wsX00)
def wsX0_reduce : List Cond := .code yX0_reduce cX0_reduce 3 none :: ([.fieldLink RX0 23 "RainShelves$Frost" "upper" "I", .fieldLink RX0 15 "RainShelves$Frost" "lower" "I"] ++ wsX00)
def wsX0_reckon : List Cond := .code yX0_reckon cX0_reckon 5 none :: ([.fieldLink RX0 15 "RainShelves$Frost" "lower" "I", .fieldLink RX0 9 "RainShelves$Frost" "cases" "[I", .fieldLink RX0 23 "RainShelves$Frost" "upper" "I", .methodLink RX0 26 Lib.Math.max.name, .static Lib.Math.max.name, .initialized "java/lang/Math", .code Lib.Math.max.name Lib.Math.max.code 2 (some .int), .methodLink RX0 19 yX0_addPan, .instanceMethod yX0_addPan, .selects RX0 yX0_addPan yX0_addPan, .initialized RX0, .code yX0_addPan cX0_addPan 3 none, .methodLink RX0 32 yX0_reduce, .instanceMethod yX0_reduce, .selects RX0 yX0_reduce yX0_reduce, .code yX0_reduce cX0_reduce 3 none] ++ wsX00)
def wsX4_init : List Cond := .code yX4_init cX4_init 2 none :: ([.methodLink RX4 3 objectInit, .instanceMethod objectInit, .code objectInit ⟨#[0xb1]⟩ 1 none, .arrayClass .int, .fieldLink RX4 9 "RainShelves$Rain" "spoons" "[I", .fieldLink RX4 15 "RainShelves$Rain" "house" "LRainShelves$House;"] ++ wsX40)
def wsX1_init : List Cond := .code yX1_init cX1_init 3 none :: ([.methodLink RX1 3 objectInit, .instanceMethod objectInit, .code objectInit ⟨#[0xb1]⟩ 1 none, .classLink RX1 9 RX4, .fieldLink RX1 11 "RainShelves$History" "rows" "[LRainShelves$Rain;", .instantiable RX4 4, .initialized RX4, .instanceMethod yX4_init, .code yX4_init cX4_init 2 none, .methodLink RX4 3 objectInit, .arrayClass .int, .fieldLink RX4 9 "RainShelves$Rain" "spoons" "[I", .fieldLink RX4 15 "RainShelves$Rain" "house" "LRainShelves$House;"] ++ wsX10 ++ wsX40)
def wsX4_become : List Cond := .code yX4_become cX4_become 3 none :: ([.fieldLink RX4 19 "RainShelves$Rain" "springs" "I", .fieldLink RX4 23 "RainShelves$Rain" "lost" "I", .fieldLink RX4 9 "RainShelves$Rain" "spoons" "[I"] ++ wsX40)
def wsX1_remember : List Cond := .code yX1_remember cX1_remember 2 none :: ([.fieldLink RX1 11 "RainShelves$History" "rows" "[LRainShelves$Rain;", .fieldLink RX1 20 "RainShelves$History" "next" "I", .fieldLink RX1 28 "RainShelves$History" "known" "I", .methodLink RX1 31 Lib.Math.min.name, .static Lib.Math.min.name, .initialized "java/lang/Math", .code Lib.Math.min.name Lib.Math.min.code 2 (some .int), .instanceMethod yX4_become, .initialized RX4, .selects RX4 yX4_become yX4_become, .code yX4_become cX4_become 3 none, .fieldLink RX4 19 "RainShelves$Rain" "springs" "I", .fieldLink RX4 23 "RainShelves$Rain" "lost" "I", .fieldLink RX4 9 "RainShelves$Rain" "spoons" "[I"] ++ wsX10 ++ wsX40)
def wsX1_restore : List Cond := .code yX1_restore cX1_restore 2 none :: ([.fieldLink RX1 20 "RainShelves$History" "next" "I", .fieldLink RX1 11 "RainShelves$History" "rows" "[LRainShelves$Rain;", .fieldLink RX1 28 "RainShelves$History" "known" "I", .instanceMethod yX4_become, .initialized RX4, .selects RX4 yX4_become yX4_become, .code yX4_become cX4_become 3 none, .fieldLink RX4 19 "RainShelves$Rain" "springs" "I", .fieldLink RX4 23 "RainShelves$Rain" "lost" "I", .fieldLink RX4 9 "RainShelves$Rain" "spoons" "[I"] ++ wsX10 ++ wsX40)
def wsX2_empty : List Cond := .code yX2_empty cX2_empty 1 none :: ([.fieldLink RX2 30 "RainShelves$House" "pans" "I", .fieldLink RX2 34 "RainShelves$House" "least" "I", .fieldLink RX2 37 "RainShelves$House" "shelf" "I"] ++ wsX20)
def wsX2_init : List Cond := .code yX2_init cX2_init 1 none :: ([.methodLink RX2 3 objectInit, .instanceMethod objectInit, .code objectInit ⟨#[0xb1]⟩ 1 none, .arrayClass .int, .fieldLink RX2 9 "RainShelves$House" "years" "[I", .fieldLink RX2 15 "RainShelves$House" "spoons" "[I", .fieldLink RX2 18 "RainShelves$House" "shrinks" "[I", .fieldLink RX2 21 "RainShelves$House" "sorts" "[I", .fieldLink RX2 24 "RainShelves$House" "byAge" "[I", .methodLink RX2 27 yX2_empty, .instanceMethod yX2_empty, .selects RX2 yX2_empty yX2_empty, .initialized RX2, .code yX2_empty cX2_empty 1 none, .fieldLink RX2 30 "RainShelves$House" "pans" "I", .fieldLink RX2 34 "RainShelves$House" "least" "I", .fieldLink RX2 37 "RainShelves$House" "shelf" "I"] ++ wsX20)
def wsX2_has : List Cond := .code yX2_has cX2_has 2 (some .boolean) :: ([.fieldLink RX2 30 "RainShelves$House" "pans" "I"] ++ wsX20)
def wsX2_append : List Cond := .code yX2_append cX2_append 6 (some .boolean) :: ([.fieldLink RX2 30 "RainShelves$House" "pans" "I", .fieldLink RX2 9 "RainShelves$House" "years" "[I", .fieldLink RX2 15 "RainShelves$House" "spoons" "[I", .fieldLink RX2 18 "RainShelves$House" "shrinks" "[I", .fieldLink RX2 21 "RainShelves$House" "sorts" "[I", .fieldLink RX2 24 "RainShelves$House" "byAge" "[I"] ++ wsX20)
def wsX2_become : List Cond := .code yX2_become cX2_become 3 none :: ([.fieldLink RX2 30 "RainShelves$House" "pans" "I", .fieldLink RX2 34 "RainShelves$House" "least" "I", .fieldLink RX2 37 "RainShelves$House" "shelf" "I", .fieldLink RX2 9 "RainShelves$House" "years" "[I", .fieldLink RX2 15 "RainShelves$House" "spoons" "[I", .fieldLink RX2 18 "RainShelves$House" "shrinks" "[I", .fieldLink RX2 21 "RainShelves$House" "sorts" "[I", .fieldLink RX2 24 "RainShelves$House" "byAge" "[I"] ++ wsX20)
def wsX2_hailPans : List Cond := .code yX2_hailPans cX2_hailPans 3 (some .int) :: ([.fieldLink RX2 30 "RainShelves$House" "pans" "I", .fieldLink RX2 21 "RainShelves$House" "sorts" "[I"] ++ wsX20)
def wsX2_spoonsOfLesser : List Cond := .code yX2_spoonsOfLesser cX2_spoonsOfLesser 6 (some .int) :: ([.fieldLink RX2 9 "RainShelves$House" "years" "[I"] ++ wsX20)
def wsX3_init : List Cond := .code yX3_init cX3_init 1 none :: ([.methodLink RX3 3 objectInit, .instanceMethod objectInit, .code objectInit ⟨#[0xb1]⟩ 1 none, .arrayClass .int, .fieldLink RX3 9 "RainShelves$Levels" "springs" "[I", .fieldLink RX3 15 "RainShelves$Levels" "pans" "[I", .fieldLink RX3 18 "RainShelves$Levels" "spoons" "[I"] ++ wsX30)
def wsX3_append : List Cond := .code yX3_append cX3_append 4 (some .boolean) :: ([.fieldLink RX3 21 "RainShelves$Levels" "size" "I", .fieldLink RX3 9 "RainShelves$Levels" "springs" "[I", .fieldLink RX3 15 "RainShelves$Levels" "pans" "[I", .fieldLink RX3 18 "RainShelves$Levels" "spoons" "[I"] ++ wsX30)
def wsX4_at : List Cond := .code yX4_at cX4_at 2 (some .int) :: ([])
def wsX4_fill : List Cond := .code yX4_fill cX4_fill 2 none :: ([.fieldLink RX4 19 "RainShelves$Rain" "springs" "I", .fieldLink RX4 23 "RainShelves$Rain" "lost" "I", .fieldLink RX4 9 "RainShelves$Rain" "spoons" "[I", .fieldLink RX4 15 "RainShelves$Rain" "house" "LRainShelves$House;", .methodLink RX4 31 yX4_at, .static yX4_at, .initialized RX4, .code yX4_at cX4_at 2 (some .int)] ++ wsX40 ++ wsX20)
def wsX4_amount : List Cond := .code yX4_amount cX4_amount 3 (some .int) :: ([.fieldLink RX4 9 "RainShelves$Rain" "spoons" "[I", .methodLink RX4 31 yX4_at, .static yX4_at, .initialized RX4, .code yX4_at cX4_at 2 (some .int)] ++ wsX40)
def wsX4_inPan : List Cond := .code yX4_inPan cX4_inPan 4 (some .int) :: ([.fieldLink RX4 15 "RainShelves$Rain" "house" "LRainShelves$House;", .methodLink RX4 36 yX4_amount, .instanceMethod yX4_amount, .selects RX4 yX4_amount yX4_amount, .initialized RX4, .code yX4_amount cX4_amount 3 (some .int), .fieldLink RX4 9 "RainShelves$Rain" "spoons" "[I", .methodLink RX4 31 yX4_at, .static yX4_at, .code yX4_at cX4_at 2 (some .int)] ++ wsX40 ++ wsX20)
def wsX4_inAll : List Cond := .code yX4_inAll cX4_inAll 3 (some .int) :: ([.fieldLink RX4 15 "RainShelves$Rain" "house" "LRainShelves$House;", .methodLink RX4 39 yX4_inPan, .instanceMethod yX4_inPan, .selects RX4 yX4_inPan yX4_inPan, .initialized RX4, .code yX4_inPan cX4_inPan 4 (some .int), .methodLink RX4 36 yX4_amount, .instanceMethod yX4_amount, .selects RX4 yX4_amount yX4_amount, .code yX4_amount cX4_amount 3 (some .int), .fieldLink RX4 9 "RainShelves$Rain" "spoons" "[I", .methodLink RX4 31 yX4_at, .static yX4_at, .code yX4_at cX4_at 2 (some .int)] ++ wsX40 ++ wsX20)
def wsX4_tasteOf : List Cond := .code yX4_tasteOf cX4_tasteOf 4 (some .int) :: ([.fieldLink RX4 15 "RainShelves$Rain" "house" "LRainShelves$House;", .methodLink RX4 36 yX4_amount, .instanceMethod yX4_amount, .selects RX4 yX4_amount yX4_amount, .initialized RX4, .code yX4_amount cX4_amount 3 (some .int), .fieldLink RX4 9 "RainShelves$Rain" "spoons" "[I", .methodLink RX4 31 yX4_at, .static yX4_at, .code yX4_at cX4_at 2 (some .int)] ++ wsX40 ++ wsX20)
def wsX4_whereIs : List Cond := .code yX4_whereIs cX4_whereIs 4 (some .int) :: ([.fieldLink RX4 15 "RainShelves$Rain" "house" "LRainShelves$House;", .methodLink RX4 36 yX4_amount, .instanceMethod yX4_amount, .selects RX4 yX4_amount yX4_amount, .initialized RX4, .code yX4_amount cX4_amount 3 (some .int), .fieldLink RX4 9 "RainShelves$Rain" "spoons" "[I", .methodLink RX4 31 yX4_at, .static yX4_at, .code yX4_at cX4_at 2 (some .int)] ++ wsX40 ++ wsX20)
def wsX4_ofYear : List Cond := .code yX4_ofYear cX4_ofYear 5 (some .int) :: ([.fieldLink RX4 15 "RainShelves$Rain" "house" "LRainShelves$House;", .methodLink RX4 36 yX4_amount, .instanceMethod yX4_amount, .selects RX4 yX4_amount yX4_amount, .initialized RX4, .code yX4_amount cX4_amount 3 (some .int), .fieldLink RX4 9 "RainShelves$Rain" "spoons" "[I", .methodLink RX4 31 yX4_at, .static yX4_at, .code yX4_at cX4_at 2 (some .int)] ++ wsX40 ++ wsX20)
def wsX4_wettest : List Cond := .code yX4_wettest cX4_wettest 6 (some .int) :: ([.fieldLink RX4 15 "RainShelves$Rain" "house" "LRainShelves$House;", .methodLink RX4 49 yX4_ofYear, .instanceMethod yX4_ofYear, .selects RX4 yX4_ofYear yX4_ofYear, .initialized RX4, .code yX4_ofYear cX4_ofYear 5 (some .int), .methodLink RX4 36 yX4_amount, .instanceMethod yX4_amount, .selects RX4 yX4_amount yX4_amount, .code yX4_amount cX4_amount 3 (some .int), .fieldLink RX4 9 "RainShelves$Rain" "spoons" "[I", .methodLink RX4 31 yX4_at, .static yX4_at, .code yX4_at cX4_at 2 (some .int)] ++ wsX40 ++ wsX20)
def wsX4_take : List Cond := .code yX4_take cX4_take 8 (some .int) :: ([.fieldLink RX4 15 "RainShelves$Rain" "house" "LRainShelves$House;", .methodLink RX4 52 Lib.Math.min.name, .static Lib.Math.min.name, .initialized "java/lang/Math", .code Lib.Math.min.name Lib.Math.min.code 2 (some .int), .fieldLink RX4 9 "RainShelves$Rain" "spoons" "[I", .fieldLink RX4 23 "RainShelves$Rain" "lost" "I", .methodLink RX4 36 yX4_amount, .instanceMethod yX4_amount, .selects RX4 yX4_amount yX4_amount, .initialized RX4, .code yX4_amount cX4_amount 3 (some .int), .methodLink RX4 31 yX4_at, .static yX4_at, .code yX4_at cX4_at 2 (some .int)] ++ wsX40 ++ wsX20)
def wsX4_passSpring : List Cond := .code yX4_passSpring cX4_passSpring 3 (some .int) :: ([.fieldLink RX4 15 "RainShelves$Rain" "house" "LRainShelves$House;", .fieldLink RX4 19 "RainShelves$Rain" "springs" "I", .methodLink RX4 60 yX4_take, .instanceMethod yX4_take, .selects RX4 yX4_take yX4_take, .initialized RX4, .code yX4_take cX4_take 8 (some .int), .methodLink RX4 52 Lib.Math.min.name, .static Lib.Math.min.name, .initialized "java/lang/Math", .code Lib.Math.min.name Lib.Math.min.code 2 (some .int), .fieldLink RX4 9 "RainShelves$Rain" "spoons" "[I", .fieldLink RX4 23 "RainShelves$Rain" "lost" "I", .methodLink RX4 36 yX4_amount, .instanceMethod yX4_amount, .selects RX4 yX4_amount yX4_amount, .code yX4_amount cX4_amount 3 (some .int), .methodLink RX4 31 yX4_at, .static yX4_at, .code yX4_at cX4_at 2 (some .int)] ++ wsX40 ++ wsX20)
def wsX4_canBeReadIn : List Cond := .code yX4_canBeReadIn cX4_canBeReadIn 10 (some .boolean) :: ([.fieldLink RX4 15 "RainShelves$Rain" "house" "LRainShelves$House;", .methodLink RX4 52 Lib.Math.min.name, .static Lib.Math.min.name, .initialized "java/lang/Math", .code Lib.Math.min.name Lib.Math.min.code 2 (some .int), .methodLink RX4 36 yX4_amount, .instanceMethod yX4_amount, .selects RX4 yX4_amount yX4_amount, .initialized RX4, .code yX4_amount cX4_amount 3 (some .int), .fieldLink RX4 9 "RainShelves$Rain" "spoons" "[I", .methodLink RX4 31 yX4_at, .static yX4_at, .code yX4_at cX4_at 2 (some .int)] ++ wsX40 ++ wsX20)
def wsX4_canBeRead : List Cond := .code yX4_canBeRead cX4_canBeRead 2 (some .boolean) :: ([.methodLink RX4 64 yX4_canBeReadIn, .instanceMethod yX4_canBeReadIn, .selects RX4 yX4_canBeReadIn yX4_canBeReadIn, .initialized RX4, .code yX4_canBeReadIn cX4_canBeReadIn 10 (some .boolean), .fieldLink RX4 15 "RainShelves$Rain" "house" "LRainShelves$House;", .methodLink RX4 52 Lib.Math.min.name, .static Lib.Math.min.name, .initialized "java/lang/Math", .code Lib.Math.min.name Lib.Math.min.code 2 (some .int), .methodLink RX4 36 yX4_amount, .instanceMethod yX4_amount, .selects RX4 yX4_amount yX4_amount, .code yX4_amount cX4_amount 3 (some .int), .fieldLink RX4 9 "RainShelves$Rain" "spoons" "[I", .methodLink RX4 31 yX4_at, .static yX4_at, .code yX4_at cX4_at 2 (some .int)] ++ wsX40 ++ wsX20)
def wsX4_readable : List Cond := .code yX4_readable cX4_readable 3 (some .int) :: ([.fieldLink RX4 15 "RainShelves$Rain" "house" "LRainShelves$House;", .methodLink RX4 71 yX4_canBeRead, .instanceMethod yX4_canBeRead, .selects RX4 yX4_canBeRead yX4_canBeRead, .initialized RX4, .code yX4_canBeRead cX4_canBeRead 2 (some .boolean), .methodLink RX4 64 yX4_canBeReadIn, .instanceMethod yX4_canBeReadIn, .selects RX4 yX4_canBeReadIn yX4_canBeReadIn, .code yX4_canBeReadIn cX4_canBeReadIn 10 (some .boolean), .methodLink RX4 52 Lib.Math.min.name, .static Lib.Math.min.name, .initialized "java/lang/Math", .code Lib.Math.min.name Lib.Math.min.code 2 (some .int), .methodLink RX4 36 yX4_amount, .instanceMethod yX4_amount, .selects RX4 yX4_amount yX4_amount, .code yX4_amount cX4_amount 3 (some .int), .fieldLink RX4 9 "RainShelves$Rain" "spoons" "[I", .methodLink RX4 31 yX4_at, .static yX4_at, .code yX4_at cX4_at 2 (some .int)] ++ wsX40 ++ wsX20)
def wsX5_init : List Cond := .code yX5_init cX5_init 1 none :: ([.methodLink RX5 3 objectInit, .instanceMethod objectInit, .code objectInit ⟨#[0xb1]⟩ 1 none, .arrayClass .int, .fieldLink RX5 9 "RainShelves$Sets" "weights" "[I", .fieldLink RX5 15 "RainShelves$Sets" "fewest" "[I"] ++ wsX50)
def wsX5_weigh : List Cond := .code yX5_weigh cX5_weigh 6 none :: ([.fieldLink RX5 18 "RainShelves$Sets" "size" "I", .fieldLink RX5 27 "RainShelves$Sets" "shelf" "I", .fieldLink RX5 32 "RainShelves$Sets" "hail" "I", .fieldLink RX5 35 "RainShelves$Sets" "filled" "I", .fieldLink RX5 9 "RainShelves$Sets" "weights" "[I", .instanceMethod yX2_hailPans, .initialized RX2, .selects RX2 yX2_hailPans yX2_hailPans, .code yX2_hailPans cX2_hailPans 3 (some .int), .fieldLink RX2 30 "RainShelves$House" "pans" "I", .fieldLink RX2 21 "RainShelves$House" "sorts" "[I", .instanceMethod yX4_inPan, .initialized RX4, .selects RX4 yX4_inPan yX4_inPan, .code yX4_inPan cX4_inPan 4 (some .int), .fieldLink RX4 15 "RainShelves$Rain" "house" "LRainShelves$House;", .methodLink RX4 36 yX4_amount, .instanceMethod yX4_amount, .selects RX4 yX4_amount yX4_amount, .code yX4_amount cX4_amount 3 (some .int), .fieldLink RX4 9 "RainShelves$Rain" "spoons" "[I", .methodLink RX4 31 yX4_at, .static yX4_at, .code yX4_at cX4_at 2 (some .int)] ++ wsX50 ++ wsX20 ++ wsX40)
def wsJ6_bitCount_0f7a4 : List Cond := .code yJ6_bitCount_0f7a4 cJ6_bitCount_0f7a4 1 (some .int) :: ([.constant RJ6 265 (1431655765), .constant RJ6 266 (858993459), .constant RJ6 267 (252645135)])
def wsX5_countLeft : List Cond := .code yX5_countLeft cX5_countLeft 2 (some .int) :: ([.methodLink RX5 47 yJ6_bitCount_0f7a4, .static yJ6_bitCount_0f7a4, .initialized RJ6, .code yJ6_bitCount_0f7a4 cJ6_bitCount_0f7a4 1 (some .int), .constant RJ6 265 (1431655765), .constant RJ6 266 (858993459), .constant RJ6 267 (252645135)])
def wsX5_isBetterFire : List Cond := .code yX5_isBetterFire cX5_isBetterFire 5 (some .boolean) :: ([.fieldLink RX5 9 "RainShelves$Sets" "weights" "[I", .methodLink RX5 56 yX5_countLeft, .static yX5_countLeft, .initialized RX5, .code yX5_countLeft cX5_countLeft 2 (some .int), .methodLink RX5 47 yJ6_bitCount_0f7a4, .static yJ6_bitCount_0f7a4, .initialized RJ6, .code yJ6_bitCount_0f7a4 cJ6_bitCount_0f7a4 1 (some .int), .constant RJ6 265 (1431655765), .constant RJ6 266 (858993459), .constant RJ6 267 (252645135)] ++ wsX50)
def wsX5_bestFire : List Cond := .code yX5_bestFire cX5_bestFire 5 (some .int) :: ([.fieldLink RX5 18 "RainShelves$Sets" "size" "I", .fieldLink RX5 9 "RainShelves$Sets" "weights" "[I", .methodLink RX5 52 yX5_isBetterFire, .instanceMethod yX5_isBetterFire, .selects RX5 yX5_isBetterFire yX5_isBetterFire, .initialized RX5, .code yX5_isBetterFire cX5_isBetterFire 5 (some .boolean), .methodLink RX5 56 yX5_countLeft, .static yX5_countLeft, .code yX5_countLeft cX5_countLeft 2 (some .int), .methodLink RX5 47 yJ6_bitCount_0f7a4, .static yJ6_bitCount_0f7a4, .initialized RJ6, .code yJ6_bitCount_0f7a4 cJ6_bitCount_0f7a4 1 (some .int), .constant RJ6 265 (1431655765), .constant RJ6 266 (858993459), .constant RJ6 267 (252645135)] ++ wsX50)
def wsX5_fitsOneShelf : List Cond := .code yX5_fitsOneShelf cX5_fitsOneShelf 3 (some .boolean) :: ([.fieldLink RX5 32 "RainShelves$Sets" "hail" "I", .fieldLink RX5 9 "RainShelves$Sets" "weights" "[I", .fieldLink RX5 27 "RainShelves$Sets" "shelf" "I"] ++ wsX50)
def wsX5_isFilled : List Cond := .code yX5_isFilled cX5_isFilled 2 (some .boolean) :: ([.fieldLink RX5 35 "RainShelves$Sets" "filled" "I"] ++ wsX50)
def wsX5_fewestFor : List Cond := .code yX5_fewestFor cX5_fewestFor 4 (some .int) :: ([.fieldLink RX5 15 "RainShelves$Sets" "fewest" "[I", .methodLink RX5 70 Lib.Math.min.name, .static Lib.Math.min.name, .initialized "java/lang/Math", .code Lib.Math.min.name Lib.Math.min.code 2 (some .int), .methodLink RX5 67 yX5_fitsOneShelf, .instanceMethod yX5_fitsOneShelf, .selects RX5 yX5_fitsOneShelf yX5_fitsOneShelf, .initialized RX5, .code yX5_fitsOneShelf cX5_fitsOneShelf 3 (some .boolean), .fieldLink RX5 32 "RainShelves$Sets" "hail" "I", .fieldLink RX5 9 "RainShelves$Sets" "weights" "[I", .fieldLink RX5 27 "RainShelves$Sets" "shelf" "I"] ++ wsX50)
def wsX5_fewestShelves : List Cond := .code yX5_fewestShelves cX5_fewestShelves 2 (some .int) :: ([.fieldLink RX5 18 "RainShelves$Sets" "size" "I", .fieldLink RX5 9 "RainShelves$Sets" "weights" "[I", .fieldLink RX5 27 "RainShelves$Sets" "shelf" "I", .fieldLink RX5 15 "RainShelves$Sets" "fewest" "[I", .fieldLink RX5 35 "RainShelves$Sets" "filled" "I", .methodLink RX5 60 yX5_isFilled, .instanceMethod yX5_isFilled, .selects RX5 yX5_isFilled yX5_isFilled, .initialized RX5, .code yX5_isFilled cX5_isFilled 2 (some .boolean), .methodLink RX5 64 yX5_fewestFor, .instanceMethod yX5_fewestFor, .selects RX5 yX5_fewestFor yX5_fewestFor, .code yX5_fewestFor cX5_fewestFor 4 (some .int), .methodLink RX5 70 Lib.Math.min.name, .static Lib.Math.min.name, .initialized "java/lang/Math", .code Lib.Math.min.name Lib.Math.min.code 2 (some .int), .methodLink RX5 67 yX5_fitsOneShelf, .instanceMethod yX5_fitsOneShelf, .selects RX5 yX5_fitsOneShelf yX5_fitsOneShelf, .code yX5_fitsOneShelf cX5_fitsOneShelf 3 (some .boolean), .fieldLink RX5 32 "RainShelves$Sets" "hail" "I"] ++ wsX50)
def wsX5_mostBeside_r1 : List Cond := [Cond.fieldLink RX5 18 "RainShelves$Sets" "size" "I", Cond.methodLink RX5 75 Lib.Math.max.name, Cond.static Lib.Math.max.name, Cond.initialized "java/lang/Math", Cond.code Lib.Math.max.name Lib.Math.max.code 2 (some .int), Cond.methodLink RX5 60 yX5_isFilled, Cond.instanceMethod yX5_isFilled, Cond.selects RX5 yX5_isFilled yX5_isFilled, Cond.initialized RX5, Cond.code yX5_isFilled cX5_isFilled 2 (some .boolean), Cond.fieldLink RX5 35 "RainShelves$Sets" "filled" "I", Cond.methodLink RX5 67 yX5_fitsOneShelf, Cond.instanceMethod yX5_fitsOneShelf, Cond.selects RX5 yX5_fitsOneShelf yX5_fitsOneShelf, Cond.code yX5_fitsOneShelf cX5_fitsOneShelf 3 (some .boolean), Cond.fieldLink RX5 32 "RainShelves$Sets" "hail" "I", Cond.fieldLink RX5 9 "RainShelves$Sets" "weights" "[I", Cond.fieldLink RX5 27 "RainShelves$Sets" "shelf" "I", Cond.methodLink RX5 47 yJ6_bitCount_0f7a4, Cond.static yJ6_bitCount_0f7a4, Cond.initialized RJ6, Cond.code yJ6_bitCount_0f7a4 cJ6_bitCount_0f7a4 1 (some .int), Cond.constant RJ6 265 (1431655765), Cond.constant RJ6 266 (858993459)]
def wsX5_mostBeside_r2 : List Cond := [Cond.constant RJ6 267 (252645135)]
def wsX5_mostBeside : List Cond := .code yX5_mostBeside cX5_mostBeside 5 (some .int) :: ((wsX5_mostBeside_r1 ++ wsX5_mostBeside_r2) ++ wsX50)
def wsX6_init : List Cond := .code yX6_init cX6_init 1 none :: ([.methodLink RX6 3 objectInit, .instanceMethod objectInit, .code objectInit ⟨#[0xb1]⟩ 1 none, .arrayClass .int, .fieldLink RX6 9 "RainShelves$Text" "letters" "[I", .classLink RX6 15 RX2, .instantiable RX2 8, .initialized RX2, .fieldLink RX6 18 "RainShelves$Text" "draft" "LRainShelves$House;", .instanceMethod yX2_init, .code yX2_init cX2_init 1 none, .methodLink RX2 3 objectInit, .fieldLink RX2 9 "RainShelves$House" "years" "[I", .fieldLink RX2 15 "RainShelves$House" "spoons" "[I", .fieldLink RX2 18 "RainShelves$House" "shrinks" "[I", .fieldLink RX2 21 "RainShelves$House" "sorts" "[I", .fieldLink RX2 24 "RainShelves$House" "byAge" "[I", .methodLink RX2 27 yX2_empty, .instanceMethod yX2_empty, .selects RX2 yX2_empty yX2_empty, .code yX2_empty cX2_empty 1 none, .fieldLink RX2 30 "RainShelves$House" "pans" "I", .fieldLink RX2 34 "RainShelves$House" "least" "I", .fieldLink RX2 37 "RainShelves$House" "shelf" "I"] ++ wsX60 ++ wsX20)
def wsX6_append : List Cond := .code yX6_append cX6_append 2 (some .boolean) :: ([.fieldLink RX6 22 "RainShelves$Text" "length" "I", .fieldLink RX6 9 "RainShelves$Text" "letters" "[I"] ++ wsX60)
def wsX6_isDigit : List Cond := .code yX6_isDigit cX6_isDigit 1 (some .boolean) :: ([])
def wsX6_digits : List Cond := .code yX6_digits cX6_digits 3 (some .int) :: ([.fieldLink RX6 36 "RainShelves$Text" "place" "I", .fieldLink RX6 22 "RainShelves$Text" "length" "I", .fieldLink RX6 9 "RainShelves$Text" "letters" "[I", .fieldLink RX6 49 "RainShelves$Text" "start" "I", .methodLink RX6 89 Lib.Math.min.name, .static Lib.Math.min.name, .initialized "java/lang/Math", .code Lib.Math.min.name Lib.Math.min.code 2 (some .int), .methodLink RX6 81 yX6_isDigit, .static yX6_isDigit, .initialized RX6, .code yX6_isDigit cX6_isDigit 1 (some .boolean)] ++ wsX60)
def wsX6_step : List Cond := .code yX6_step cX6_step 1 none :: ([.fieldLink RX6 36 "RainShelves$Text" "place" "I", .fieldLink RX6 22 "RainShelves$Text" "length" "I", .fieldLink RX6 9 "RainShelves$Text" "letters" "[I", .fieldLink RX6 49 "RainShelves$Text" "start" "I", .fieldLink RX6 42 "RainShelves$Text" "token" "I", .fieldLink RX6 68 "RainShelves$Text" "number" "I", .methodLink RX6 81 yX6_isDigit, .static yX6_isDigit, .initialized RX6, .code yX6_isDigit cX6_isDigit 1 (some .boolean), .methodLink RX6 85 yX6_digits, .instanceMethod yX6_digits, .selects RX6 yX6_digits yX6_digits, .code yX6_digits cX6_digits 3 (some .int), .methodLink RX6 89 Lib.Math.min.name, .static Lib.Math.min.name, .initialized "java/lang/Math", .code Lib.Math.min.name Lib.Math.min.code 2 (some .int)] ++ wsX60)
def wsX6_readNumber : List Cond := .code yX6_readNumber cX6_readNumber 3 (some .boolean) :: ([.fieldLink RX6 42 "RainShelves$Text" "token" "I", .fieldLink RX6 68 "RainShelves$Text" "number" "I", .methodLink RX6 39 yX6_step, .instanceMethod yX6_step, .selects RX6 yX6_step yX6_step, .initialized RX6, .code yX6_step cX6_step 1 none, .fieldLink RX6 36 "RainShelves$Text" "place" "I", .fieldLink RX6 22 "RainShelves$Text" "length" "I", .fieldLink RX6 9 "RainShelves$Text" "letters" "[I", .fieldLink RX6 49 "RainShelves$Text" "start" "I", .methodLink RX6 81 yX6_isDigit, .static yX6_isDigit, .code yX6_isDigit cX6_isDigit 1 (some .boolean), .methodLink RX6 85 yX6_digits, .instanceMethod yX6_digits, .selects RX6 yX6_digits yX6_digits, .code yX6_digits cX6_digits 3 (some .int), .methodLink RX6 89 Lib.Math.min.name, .static Lib.Math.min.name, .initialized "java/lang/Math", .code Lib.Math.min.name Lib.Math.min.code 2 (some .int)] ++ wsX60)
def wsX6_readPan_r1 : List Cond := [Cond.fieldLink RX6 18 "RainShelves$Text" "draft" "LRainShelves$House;", Cond.fieldLink RX6 68 "RainShelves$Text" "number" "I", Cond.methodLink RX6 64 yX6_readNumber, Cond.instanceMethod yX6_readNumber, Cond.selects RX6 yX6_readNumber yX6_readNumber, Cond.initialized RX6, Cond.code yX6_readNumber cX6_readNumber 3 (some .boolean), Cond.fieldLink RX6 42 "RainShelves$Text" "token" "I", Cond.methodLink RX6 39 yX6_step, Cond.instanceMethod yX6_step, Cond.selects RX6 yX6_step yX6_step, Cond.code yX6_step cX6_step 1 none, Cond.fieldLink RX6 36 "RainShelves$Text" "place" "I", Cond.fieldLink RX6 22 "RainShelves$Text" "length" "I", Cond.fieldLink RX6 9 "RainShelves$Text" "letters" "[I", Cond.fieldLink RX6 49 "RainShelves$Text" "start" "I", Cond.methodLink RX6 81 yX6_isDigit, Cond.static yX6_isDigit, Cond.code yX6_isDigit cX6_isDigit 1 (some .boolean), Cond.methodLink RX6 85 yX6_digits, Cond.instanceMethod yX6_digits, Cond.selects RX6 yX6_digits yX6_digits, Cond.code yX6_digits cX6_digits 3 (some .int), Cond.methodLink RX6 89 Lib.Math.min.name]
def wsX6_readPan_r2 : List Cond := [Cond.static Lib.Math.min.name, Cond.initialized "java/lang/Math", Cond.code Lib.Math.min.name Lib.Math.min.code 2 (some .int), Cond.instanceMethod yX2_append, Cond.initialized RX2, Cond.selects RX2 yX2_append yX2_append, Cond.code yX2_append cX2_append 6 (some .boolean), Cond.fieldLink RX2 30 "RainShelves$House" "pans" "I", Cond.fieldLink RX2 9 "RainShelves$House" "years" "[I", Cond.fieldLink RX2 15 "RainShelves$House" "spoons" "[I", Cond.fieldLink RX2 18 "RainShelves$House" "shrinks" "[I", Cond.fieldLink RX2 21 "RainShelves$House" "sorts" "[I", Cond.fieldLink RX2 24 "RainShelves$House" "byAge" "[I"]
def wsX6_readPan : List Cond := .code yX6_readPan cX6_readPan 4 (some .boolean) :: ((wsX6_readPan_r1 ++ wsX6_readPan_r2) ++ wsX60 ++ wsX20)
def wsX6_readLeast_r1 : List Cond := [Cond.fieldLink RX6 29 "RainShelves$Text" "leastTold" "Z", Cond.fieldLink RX6 18 "RainShelves$Text" "draft" "LRainShelves$House;", Cond.fieldLink RX6 68 "RainShelves$Text" "number" "I", Cond.methodLink RX6 64 yX6_readNumber, Cond.instanceMethod yX6_readNumber, Cond.selects RX6 yX6_readNumber yX6_readNumber, Cond.initialized RX6, Cond.code yX6_readNumber cX6_readNumber 3 (some .boolean), Cond.fieldLink RX6 42 "RainShelves$Text" "token" "I", Cond.methodLink RX6 39 yX6_step, Cond.instanceMethod yX6_step, Cond.selects RX6 yX6_step yX6_step, Cond.code yX6_step cX6_step 1 none, Cond.fieldLink RX6 36 "RainShelves$Text" "place" "I", Cond.fieldLink RX6 22 "RainShelves$Text" "length" "I", Cond.fieldLink RX6 9 "RainShelves$Text" "letters" "[I", Cond.fieldLink RX6 49 "RainShelves$Text" "start" "I", Cond.methodLink RX6 81 yX6_isDigit, Cond.static yX6_isDigit, Cond.code yX6_isDigit cX6_isDigit 1 (some .boolean), Cond.methodLink RX6 85 yX6_digits, Cond.instanceMethod yX6_digits, Cond.selects RX6 yX6_digits yX6_digits, Cond.code yX6_digits cX6_digits 3 (some .int)]
def wsX6_readLeast_r2 : List Cond := [Cond.methodLink RX6 89 Lib.Math.min.name, Cond.static Lib.Math.min.name, Cond.initialized "java/lang/Math", Cond.code Lib.Math.min.name Lib.Math.min.code 2 (some .int)]
def wsX6_readLeast : List Cond := .code yX6_readLeast cX6_readLeast 1 (some .boolean) :: ((wsX6_readLeast_r1 ++ wsX6_readLeast_r2) ++ wsX60 ++ wsX20)
def wsX6_readShelf_r1 : List Cond := [Cond.fieldLink RX6 33 "RainShelves$Text" "shelfTold" "Z", Cond.fieldLink RX6 18 "RainShelves$Text" "draft" "LRainShelves$House;", Cond.fieldLink RX6 68 "RainShelves$Text" "number" "I", Cond.methodLink RX6 64 yX6_readNumber, Cond.instanceMethod yX6_readNumber, Cond.selects RX6 yX6_readNumber yX6_readNumber, Cond.initialized RX6, Cond.code yX6_readNumber cX6_readNumber 3 (some .boolean), Cond.fieldLink RX6 42 "RainShelves$Text" "token" "I", Cond.methodLink RX6 39 yX6_step, Cond.instanceMethod yX6_step, Cond.selects RX6 yX6_step yX6_step, Cond.code yX6_step cX6_step 1 none, Cond.fieldLink RX6 36 "RainShelves$Text" "place" "I", Cond.fieldLink RX6 22 "RainShelves$Text" "length" "I", Cond.fieldLink RX6 9 "RainShelves$Text" "letters" "[I", Cond.fieldLink RX6 49 "RainShelves$Text" "start" "I", Cond.methodLink RX6 81 yX6_isDigit, Cond.static yX6_isDigit, Cond.code yX6_isDigit cX6_isDigit 1 (some .boolean), Cond.methodLink RX6 85 yX6_digits, Cond.instanceMethod yX6_digits, Cond.selects RX6 yX6_digits yX6_digits, Cond.code yX6_digits cX6_digits 3 (some .int)]
def wsX6_readShelf_r2 : List Cond := [Cond.methodLink RX6 89 Lib.Math.min.name, Cond.static Lib.Math.min.name, Cond.initialized "java/lang/Math", Cond.code Lib.Math.min.name Lib.Math.min.code 2 (some .int)]
def wsX6_readShelf : List Cond := .code yX6_readShelf cX6_readShelf 1 (some .boolean) :: ((wsX6_readShelf_r1 ++ wsX6_readShelf_r2) ++ wsX60 ++ wsX20)
def wsX6_readItem_r1 : List Cond := [Cond.fieldLink RX6 42 "RainShelves$Text" "token" "I", Cond.methodLink RX6 52 yX6_readPan, Cond.instanceMethod yX6_readPan, Cond.selects RX6 yX6_readPan yX6_readPan, Cond.initialized RX6, Cond.code yX6_readPan cX6_readPan 4 (some .boolean), Cond.fieldLink RX6 18 "RainShelves$Text" "draft" "LRainShelves$House;", Cond.fieldLink RX6 68 "RainShelves$Text" "number" "I", Cond.methodLink RX6 64 yX6_readNumber, Cond.instanceMethod yX6_readNumber, Cond.selects RX6 yX6_readNumber yX6_readNumber, Cond.code yX6_readNumber cX6_readNumber 3 (some .boolean), Cond.methodLink RX6 39 yX6_step, Cond.instanceMethod yX6_step, Cond.selects RX6 yX6_step yX6_step, Cond.code yX6_step cX6_step 1 none, Cond.fieldLink RX6 36 "RainShelves$Text" "place" "I", Cond.fieldLink RX6 22 "RainShelves$Text" "length" "I", Cond.fieldLink RX6 9 "RainShelves$Text" "letters" "[I", Cond.fieldLink RX6 49 "RainShelves$Text" "start" "I", Cond.methodLink RX6 81 yX6_isDigit, Cond.static yX6_isDigit, Cond.code yX6_isDigit cX6_isDigit 1 (some .boolean), Cond.methodLink RX6 85 yX6_digits]
def wsX6_readItem_r2 : List Cond := [Cond.instanceMethod yX6_digits, Cond.selects RX6 yX6_digits yX6_digits, Cond.code yX6_digits cX6_digits 3 (some .int), Cond.methodLink RX6 89 Lib.Math.min.name, Cond.static Lib.Math.min.name, Cond.initialized "java/lang/Math", Cond.code Lib.Math.min.name Lib.Math.min.code 2 (some .int), Cond.instanceMethod yX2_append, Cond.initialized RX2, Cond.selects RX2 yX2_append yX2_append, Cond.code yX2_append cX2_append 6 (some .boolean), Cond.fieldLink RX2 30 "RainShelves$House" "pans" "I", Cond.fieldLink RX2 9 "RainShelves$House" "years" "[I", Cond.fieldLink RX2 15 "RainShelves$House" "spoons" "[I", Cond.fieldLink RX2 18 "RainShelves$House" "shrinks" "[I", Cond.fieldLink RX2 21 "RainShelves$House" "sorts" "[I", Cond.fieldLink RX2 24 "RainShelves$House" "byAge" "[I", Cond.methodLink RX6 55 yX6_readLeast, Cond.instanceMethod yX6_readLeast, Cond.selects RX6 yX6_readLeast yX6_readLeast, Cond.code yX6_readLeast cX6_readLeast 1 (some .boolean), Cond.fieldLink RX6 29 "RainShelves$Text" "leastTold" "Z", Cond.methodLink RX6 58 yX6_readShelf, Cond.instanceMethod yX6_readShelf]
def wsX6_readItem_r3 : List Cond := [Cond.selects RX6 yX6_readShelf yX6_readShelf, Cond.code yX6_readShelf cX6_readShelf 1 (some .boolean), Cond.fieldLink RX6 33 "RainShelves$Text" "shelfTold" "Z"]
def wsX6_readItem : List Cond := .code yX6_readItem cX6_readItem 2 (some .boolean) :: ((wsX6_readItem_r1 ++ (wsX6_readItem_r2 ++ wsX6_readItem_r3)) ++ wsX60 ++ wsX20)
def wsX6_read_r1 : List Cond := [Cond.fieldLink RX6 18 "RainShelves$Text" "draft" "LRainShelves$House;", Cond.fieldLink RX6 29 "RainShelves$Text" "leastTold" "Z", Cond.fieldLink RX6 33 "RainShelves$Text" "shelfTold" "Z", Cond.fieldLink RX6 36 "RainShelves$Text" "place" "I", Cond.fieldLink RX6 42 "RainShelves$Text" "token" "I", Cond.fieldLink RX6 49 "RainShelves$Text" "start" "I", Cond.instanceMethod yX2_empty, Cond.initialized RX2, Cond.selects RX2 yX2_empty yX2_empty, Cond.code yX2_empty cX2_empty 1 none, Cond.fieldLink RX2 30 "RainShelves$House" "pans" "I", Cond.fieldLink RX2 34 "RainShelves$House" "least" "I", Cond.fieldLink RX2 37 "RainShelves$House" "shelf" "I", Cond.methodLink RX6 39 yX6_step, Cond.instanceMethod yX6_step, Cond.selects RX6 yX6_step yX6_step, Cond.initialized RX6, Cond.code yX6_step cX6_step 1 none, Cond.fieldLink RX6 22 "RainShelves$Text" "length" "I", Cond.fieldLink RX6 9 "RainShelves$Text" "letters" "[I", Cond.fieldLink RX6 68 "RainShelves$Text" "number" "I", Cond.methodLink RX6 81 yX6_isDigit, Cond.static yX6_isDigit, Cond.code yX6_isDigit cX6_isDigit 1 (some .boolean)]
def wsX6_read_r2 : List Cond := [Cond.methodLink RX6 85 yX6_digits, Cond.instanceMethod yX6_digits, Cond.selects RX6 yX6_digits yX6_digits, Cond.code yX6_digits cX6_digits 3 (some .int), Cond.methodLink RX6 89 Lib.Math.min.name, Cond.static Lib.Math.min.name, Cond.initialized "java/lang/Math", Cond.code Lib.Math.min.name Lib.Math.min.code 2 (some .int), Cond.methodLink RX6 45 yX6_readItem, Cond.instanceMethod yX6_readItem, Cond.selects RX6 yX6_readItem yX6_readItem, Cond.code yX6_readItem cX6_readItem 2 (some .boolean), Cond.methodLink RX6 52 yX6_readPan, Cond.instanceMethod yX6_readPan, Cond.selects RX6 yX6_readPan yX6_readPan, Cond.code yX6_readPan cX6_readPan 4 (some .boolean), Cond.methodLink RX6 64 yX6_readNumber, Cond.instanceMethod yX6_readNumber, Cond.selects RX6 yX6_readNumber yX6_readNumber, Cond.code yX6_readNumber cX6_readNumber 3 (some .boolean), Cond.instanceMethod yX2_append, Cond.selects RX2 yX2_append yX2_append, Cond.code yX2_append cX2_append 6 (some .boolean), Cond.fieldLink RX2 9 "RainShelves$House" "years" "[I"]
def wsX6_read_r3 : List Cond := [Cond.fieldLink RX2 15 "RainShelves$House" "spoons" "[I", Cond.fieldLink RX2 18 "RainShelves$House" "shrinks" "[I", Cond.fieldLink RX2 21 "RainShelves$House" "sorts" "[I", Cond.fieldLink RX2 24 "RainShelves$House" "byAge" "[I", Cond.methodLink RX6 55 yX6_readLeast, Cond.instanceMethod yX6_readLeast, Cond.selects RX6 yX6_readLeast yX6_readLeast, Cond.code yX6_readLeast cX6_readLeast 1 (some .boolean), Cond.methodLink RX6 58 yX6_readShelf, Cond.instanceMethod yX6_readShelf, Cond.selects RX6 yX6_readShelf yX6_readShelf, Cond.code yX6_readShelf cX6_readShelf 1 (some .boolean)]
def wsX6_read : List Cond := .code yX6_read cX6_read 2 (some .int) :: ((wsX6_read_r1 ++ (wsX6_read_r2 ++ wsX6_read_r3)) ++ wsX60 ++ wsX20)
def wsX7_init_r1 : List Cond := [Cond.methodLink RX7 1 objectInit, Cond.instanceMethod objectInit, Cond.code objectInit ⟨#[0xb1]⟩ 1 none, Cond.classLink RX7 7 RX2, Cond.instantiable RX2 8, Cond.initialized RX2, Cond.fieldLink RX7 10 "RainShelves" "house" "LRainShelves$House;", Cond.classLink RX7 16 RX6, Cond.instantiable RX6 9, Cond.initialized RX6, Cond.fieldLink RX7 19 "RainShelves" "text" "LRainShelves$Text;", Cond.classLink RX7 23 RX4, Cond.instantiable RX4 4, Cond.initialized RX4, Cond.fieldLink RX7 28 "RainShelves" "rain" "LRainShelves$Rain;", Cond.classLink RX7 32 RX1, Cond.instantiable RX1 3, Cond.initialized RX1, Cond.fieldLink RX7 35 "RainShelves" "history" "LRainShelves$History;", Cond.fieldLink RX7 39 "RainShelves" "images" "[LRainShelves$Rain;", Cond.arrayClass .boolean, Cond.fieldLink RX7 43 "RainShelves" "kept" "[Z", Cond.classLink RX7 47 RX3, Cond.instantiable RX3 4]
def wsX7_init_r2 : List Cond := [Cond.initialized RX3, Cond.fieldLink RX7 50 "RainShelves" "told" "LRainShelves$Levels;", Cond.classLink RX7 54 RX5, Cond.instantiable RX5 6, Cond.initialized RX5, Cond.fieldLink RX7 57 "RainShelves" "sets" "LRainShelves$Sets;", Cond.classLink RX7 61 RX0, Cond.instantiable RX0 3, Cond.initialized RX0, Cond.fieldLink RX7 64 "RainShelves" "frost" "LRainShelves$Frost;", Cond.fieldLink RX7 68 "RainShelves" "traced" "J", Cond.instanceMethod yX2_init, Cond.code yX2_init cX2_init 1 none, Cond.methodLink RX2 3 objectInit, Cond.arrayClass .int, Cond.fieldLink RX2 9 "RainShelves$House" "years" "[I", Cond.fieldLink RX2 15 "RainShelves$House" "spoons" "[I", Cond.fieldLink RX2 18 "RainShelves$House" "shrinks" "[I", Cond.fieldLink RX2 21 "RainShelves$House" "sorts" "[I", Cond.fieldLink RX2 24 "RainShelves$House" "byAge" "[I", Cond.methodLink RX2 27 yX2_empty, Cond.instanceMethod yX2_empty, Cond.selects RX2 yX2_empty yX2_empty, Cond.code yX2_empty cX2_empty 1 none]
def wsX7_init_r3 : List Cond := [Cond.fieldLink RX2 30 "RainShelves$House" "pans" "I", Cond.fieldLink RX2 34 "RainShelves$House" "least" "I", Cond.fieldLink RX2 37 "RainShelves$House" "shelf" "I", Cond.instanceMethod yX6_init, Cond.code yX6_init cX6_init 1 none, Cond.methodLink RX6 3 objectInit, Cond.fieldLink RX6 9 "RainShelves$Text" "letters" "[I", Cond.classLink RX6 15 RX2, Cond.fieldLink RX6 18 "RainShelves$Text" "draft" "LRainShelves$House;", Cond.instanceMethod yX4_init, Cond.code yX4_init cX4_init 2 none, Cond.methodLink RX4 3 objectInit, Cond.fieldLink RX4 9 "RainShelves$Rain" "spoons" "[I", Cond.fieldLink RX4 15 "RainShelves$Rain" "house" "LRainShelves$House;", Cond.instanceMethod yX1_init, Cond.code yX1_init cX1_init 3 none, Cond.methodLink RX1 3 objectInit, Cond.classLink RX1 9 RX4, Cond.fieldLink RX1 11 "RainShelves$History" "rows" "[LRainShelves$Rain;", Cond.instanceMethod yX3_init, Cond.code yX3_init cX3_init 1 none, Cond.methodLink RX3 3 objectInit, Cond.fieldLink RX3 9 "RainShelves$Levels" "springs" "[I", Cond.fieldLink RX3 15 "RainShelves$Levels" "pans" "[I"]
def wsX7_init_r4 : List Cond := [Cond.fieldLink RX3 18 "RainShelves$Levels" "spoons" "[I", Cond.instanceMethod yX5_init, Cond.code yX5_init cX5_init 1 none, Cond.methodLink RX5 3 objectInit, Cond.fieldLink RX5 9 "RainShelves$Sets" "weights" "[I", Cond.fieldLink RX5 15 "RainShelves$Sets" "fewest" "[I", Cond.instanceMethod yX0_init, Cond.code yX0_init cX0_init 1 none, Cond.methodLink RX0 3 objectInit, Cond.fieldLink RX0 9 "RainShelves$Frost" "cases" "[I"]
def wsX7_init : List Cond := .code yX7_init cX7_init 2 none :: ((wsX7_init_r1 ++ (wsX7_init_r2 ++ (wsX7_init_r3 ++ wsX7_init_r4))) ++ wsX20 ++ wsX70 ++ wsX60 ++ wsX40 ++ wsX10 ++ wsX30 ++ wsX50 ++ wsX00)
def wsX7_isWithin : List Cond := .code yX7_isWithin cX7_isWithin 3 (some .boolean) :: ([])
def wsX7_type : List Cond := .code yX7_type cX7_type 2 (some .int) :: ([.fieldLink RX7 19 "RainShelves" "text" "LRainShelves$Text;", .methodLink RX7 72 yX7_isWithin, .static yX7_isWithin, .initialized RX7, .code yX7_isWithin cX7_isWithin 3 (some .boolean), .instanceMethod yX6_append, .initialized RX6, .selects RX6 yX6_append yX6_append, .code yX6_append cX6_append 2 (some .boolean), .fieldLink RX6 22 "RainShelves$Text" "length" "I", .fieldLink RX6 9 "RainShelves$Text" "letters" "[I"] ++ wsX70 ++ wsX60)
def wsX7_clear : List Cond := .code yX7_clear cX7_clear 2 (some .int) :: ([.fieldLink RX7 19 "RainShelves" "text" "LRainShelves$Text;"] ++ wsX70 ++ wsX60)
def wsX7_house_r1 : List Cond := [Cond.fieldLink RX7 19 "RainShelves" "text" "LRainShelves$Text;", Cond.fieldLink RX7 10 "RainShelves" "house" "LRainShelves$House;", Cond.fieldLink RX7 28 "RainShelves" "rain" "LRainShelves$Rain;", Cond.fieldLink RX7 35 "RainShelves" "history" "LRainShelves$History;", Cond.fieldLink RX7 50 "RainShelves" "told" "LRainShelves$Levels;", Cond.fieldLink RX7 43 "RainShelves" "kept" "[Z", Cond.instanceMethod yX6_read, Cond.initialized RX6, Cond.selects RX6 yX6_read yX6_read, Cond.code yX6_read cX6_read 2 (some .int), Cond.fieldLink RX6 18 "RainShelves$Text" "draft" "LRainShelves$House;", Cond.fieldLink RX6 29 "RainShelves$Text" "leastTold" "Z", Cond.fieldLink RX6 33 "RainShelves$Text" "shelfTold" "Z", Cond.fieldLink RX6 36 "RainShelves$Text" "place" "I", Cond.fieldLink RX6 42 "RainShelves$Text" "token" "I", Cond.fieldLink RX6 49 "RainShelves$Text" "start" "I", Cond.instanceMethod yX2_empty, Cond.initialized RX2, Cond.selects RX2 yX2_empty yX2_empty, Cond.code yX2_empty cX2_empty 1 none, Cond.fieldLink RX2 30 "RainShelves$House" "pans" "I", Cond.fieldLink RX2 34 "RainShelves$House" "least" "I", Cond.fieldLink RX2 37 "RainShelves$House" "shelf" "I", Cond.methodLink RX6 39 yX6_step]
def wsX7_house_r2 : List Cond := [Cond.instanceMethod yX6_step, Cond.selects RX6 yX6_step yX6_step, Cond.code yX6_step cX6_step 1 none, Cond.fieldLink RX6 22 "RainShelves$Text" "length" "I", Cond.fieldLink RX6 9 "RainShelves$Text" "letters" "[I", Cond.fieldLink RX6 68 "RainShelves$Text" "number" "I", Cond.methodLink RX6 81 yX6_isDigit, Cond.static yX6_isDigit, Cond.code yX6_isDigit cX6_isDigit 1 (some .boolean), Cond.methodLink RX6 85 yX6_digits, Cond.instanceMethod yX6_digits, Cond.selects RX6 yX6_digits yX6_digits, Cond.code yX6_digits cX6_digits 3 (some .int), Cond.methodLink RX6 89 Lib.Math.min.name, Cond.static Lib.Math.min.name, Cond.initialized "java/lang/Math", Cond.code Lib.Math.min.name Lib.Math.min.code 2 (some .int), Cond.methodLink RX6 45 yX6_readItem, Cond.instanceMethod yX6_readItem, Cond.selects RX6 yX6_readItem yX6_readItem, Cond.code yX6_readItem cX6_readItem 2 (some .boolean), Cond.methodLink RX6 52 yX6_readPan, Cond.instanceMethod yX6_readPan, Cond.selects RX6 yX6_readPan yX6_readPan]
def wsX7_house_r3 : List Cond := [Cond.code yX6_readPan cX6_readPan 4 (some .boolean), Cond.methodLink RX6 64 yX6_readNumber, Cond.instanceMethod yX6_readNumber, Cond.selects RX6 yX6_readNumber yX6_readNumber, Cond.code yX6_readNumber cX6_readNumber 3 (some .boolean), Cond.instanceMethod yX2_append, Cond.selects RX2 yX2_append yX2_append, Cond.code yX2_append cX2_append 6 (some .boolean), Cond.fieldLink RX2 9 "RainShelves$House" "years" "[I", Cond.fieldLink RX2 15 "RainShelves$House" "spoons" "[I", Cond.fieldLink RX2 18 "RainShelves$House" "shrinks" "[I", Cond.fieldLink RX2 21 "RainShelves$House" "sorts" "[I", Cond.fieldLink RX2 24 "RainShelves$House" "byAge" "[I", Cond.methodLink RX6 55 yX6_readLeast, Cond.instanceMethod yX6_readLeast, Cond.selects RX6 yX6_readLeast yX6_readLeast, Cond.code yX6_readLeast cX6_readLeast 1 (some .boolean), Cond.methodLink RX6 58 yX6_readShelf, Cond.instanceMethod yX6_readShelf, Cond.selects RX6 yX6_readShelf yX6_readShelf, Cond.code yX6_readShelf cX6_readShelf 1 (some .boolean), Cond.instanceMethod yX2_become, Cond.selects RX2 yX2_become yX2_become, Cond.code yX2_become cX2_become 3 none]
def wsX7_house_r4 : List Cond := [Cond.instanceMethod yX4_fill, Cond.initialized RX4, Cond.selects RX4 yX4_fill yX4_fill, Cond.code yX4_fill cX4_fill 2 none, Cond.fieldLink RX4 19 "RainShelves$Rain" "springs" "I", Cond.fieldLink RX4 23 "RainShelves$Rain" "lost" "I", Cond.fieldLink RX4 9 "RainShelves$Rain" "spoons" "[I", Cond.fieldLink RX4 15 "RainShelves$Rain" "house" "LRainShelves$House;", Cond.methodLink RX4 31 yX4_at, Cond.static yX4_at, Cond.code yX4_at cX4_at 2 (some .int)]
def wsX7_house : List Cond := .code yX7_house cX7_house 3 (some .int) :: ((wsX7_house_r1 ++ (wsX7_house_r2 ++ (wsX7_house_r3 ++ wsX7_house_r4))) ++ wsX70 ++ wsX60 ++ wsX10 ++ wsX30 ++ wsX20 ++ wsX40)
def wsX7_pan_r1 : List Cond := [Cond.fieldLink RX7 10 "RainShelves" "house" "LRainShelves$House;", Cond.fieldLink RX7 28 "RainShelves" "rain" "LRainShelves$Rain;", Cond.instanceMethod yX2_has, Cond.initialized RX2, Cond.selects RX2 yX2_has yX2_has, Cond.code yX2_has cX2_has 2 (some .boolean), Cond.fieldLink RX2 30 "RainShelves$House" "pans" "I", Cond.instanceMethod yX4_inPan, Cond.initialized RX4, Cond.selects RX4 yX4_inPan yX4_inPan, Cond.code yX4_inPan cX4_inPan 4 (some .int), Cond.fieldLink RX4 15 "RainShelves$Rain" "house" "LRainShelves$House;", Cond.methodLink RX4 36 yX4_amount, Cond.instanceMethod yX4_amount, Cond.selects RX4 yX4_amount yX4_amount, Cond.code yX4_amount cX4_amount 3 (some .int), Cond.fieldLink RX4 9 "RainShelves$Rain" "spoons" "[I", Cond.methodLink RX4 31 yX4_at, Cond.static yX4_at, Cond.code yX4_at cX4_at 2 (some .int), Cond.instanceMethod yX4_canBeRead, Cond.selects RX4 yX4_canBeRead yX4_canBeRead, Cond.code yX4_canBeRead cX4_canBeRead 2 (some .boolean), Cond.methodLink RX4 64 yX4_canBeReadIn]
def wsX7_pan_r2 : List Cond := [Cond.instanceMethod yX4_canBeReadIn, Cond.selects RX4 yX4_canBeReadIn yX4_canBeReadIn, Cond.code yX4_canBeReadIn cX4_canBeReadIn 10 (some .boolean), Cond.methodLink RX4 52 Lib.Math.min.name, Cond.static Lib.Math.min.name, Cond.initialized "java/lang/Math", Cond.code Lib.Math.min.name Lib.Math.min.code 2 (some .int), Cond.instanceMethod yX4_tasteOf, Cond.selects RX4 yX4_tasteOf yX4_tasteOf, Cond.code yX4_tasteOf cX4_tasteOf 4 (some .int), Cond.instanceMethod yX4_whereIs, Cond.selects RX4 yX4_whereIs yX4_whereIs, Cond.code yX4_whereIs cX4_whereIs 4 (some .int)]
def wsX7_pan : List Cond := .code yX7_pan cX7_pan 3 (some .int) :: ((wsX7_pan_r1 ++ wsX7_pan_r2) ++ wsX70 ++ wsX20 ++ wsX40)
def wsX7_holds : List Cond := .code yX7_holds cX7_holds 3 (some .int) :: ([.fieldLink RX7 10 "RainShelves" "house" "LRainShelves$House;", .fieldLink RX7 28 "RainShelves" "rain" "LRainShelves$Rain;", .instanceMethod yX2_has, .initialized RX2, .selects RX2 yX2_has yX2_has, .code yX2_has cX2_has 2 (some .boolean), .fieldLink RX2 30 "RainShelves$House" "pans" "I", .instanceMethod yX4_amount, .initialized RX4, .selects RX4 yX4_amount yX4_amount, .code yX4_amount cX4_amount 3 (some .int), .fieldLink RX4 9 "RainShelves$Rain" "spoons" "[I", .methodLink RX4 31 yX4_at, .static yX4_at, .code yX4_at cX4_at 2 (some .int)] ++ wsX70 ++ wsX20 ++ wsX40)
def wsX7_now_r1 : List Cond := [Cond.fieldLink RX7 28 "RainShelves" "rain" "LRainShelves$Rain;", Cond.fieldLink RX7 35 "RainShelves" "history" "LRainShelves$History;", Cond.instanceMethod yX4_inAll, Cond.initialized RX4, Cond.selects RX4 yX4_inAll yX4_inAll, Cond.code yX4_inAll cX4_inAll 3 (some .int), Cond.fieldLink RX4 15 "RainShelves$Rain" "house" "LRainShelves$House;", Cond.methodLink RX4 39 yX4_inPan, Cond.instanceMethod yX4_inPan, Cond.selects RX4 yX4_inPan yX4_inPan, Cond.code yX4_inPan cX4_inPan 4 (some .int), Cond.methodLink RX4 36 yX4_amount, Cond.instanceMethod yX4_amount, Cond.selects RX4 yX4_amount yX4_amount, Cond.code yX4_amount cX4_amount 3 (some .int), Cond.fieldLink RX4 9 "RainShelves$Rain" "spoons" "[I", Cond.methodLink RX4 31 yX4_at, Cond.static yX4_at, Cond.code yX4_at cX4_at 2 (some .int), Cond.instanceMethod yX4_readable, Cond.selects RX4 yX4_readable yX4_readable, Cond.code yX4_readable cX4_readable 3 (some .int), Cond.methodLink RX4 71 yX4_canBeRead, Cond.instanceMethod yX4_canBeRead]
def wsX7_now_r2 : List Cond := [Cond.selects RX4 yX4_canBeRead yX4_canBeRead, Cond.code yX4_canBeRead cX4_canBeRead 2 (some .boolean), Cond.methodLink RX4 64 yX4_canBeReadIn, Cond.instanceMethod yX4_canBeReadIn, Cond.selects RX4 yX4_canBeReadIn yX4_canBeReadIn, Cond.code yX4_canBeReadIn cX4_canBeReadIn 10 (some .boolean), Cond.methodLink RX4 52 Lib.Math.min.name, Cond.static Lib.Math.min.name, Cond.initialized "java/lang/Math", Cond.code Lib.Math.min.name Lib.Math.min.code 2 (some .int), Cond.instanceMethod yX4_wettest, Cond.selects RX4 yX4_wettest yX4_wettest, Cond.code yX4_wettest cX4_wettest 6 (some .int), Cond.methodLink RX4 49 yX4_ofYear, Cond.instanceMethod yX4_ofYear, Cond.selects RX4 yX4_ofYear yX4_ofYear, Cond.code yX4_ofYear cX4_ofYear 5 (some .int)]
def wsX7_now : List Cond := .code yX7_now cX7_now 2 (some .int) :: ((wsX7_now_r1 ++ wsX7_now_r2) ++ wsX70 ++ wsX40 ++ wsX10 ++ wsX20)
def wsX7_uses_r1 : List Cond := [Cond.fieldLink RX7 10 "RainShelves" "house" "LRainShelves$House;", Cond.fieldLink RX7 28 "RainShelves" "rain" "LRainShelves$Rain;", Cond.fieldLink RX7 35 "RainShelves" "history" "LRainShelves$History;", Cond.instanceMethod yX2_has, Cond.initialized RX2, Cond.selects RX2 yX2_has yX2_has, Cond.code yX2_has cX2_has 2 (some .boolean), Cond.fieldLink RX2 30 "RainShelves$House" "pans" "I", Cond.methodLink RX7 72 yX7_isWithin, Cond.static yX7_isWithin, Cond.initialized RX7, Cond.code yX7_isWithin cX7_isWithin 3 (some .boolean), Cond.instanceMethod yX4_inPan, Cond.initialized RX4, Cond.selects RX4 yX4_inPan yX4_inPan, Cond.code yX4_inPan cX4_inPan 4 (some .int), Cond.fieldLink RX4 15 "RainShelves$Rain" "house" "LRainShelves$House;", Cond.methodLink RX4 36 yX4_amount, Cond.instanceMethod yX4_amount, Cond.selects RX4 yX4_amount yX4_amount, Cond.code yX4_amount cX4_amount 3 (some .int), Cond.fieldLink RX4 9 "RainShelves$Rain" "spoons" "[I", Cond.methodLink RX4 31 yX4_at, Cond.static yX4_at]
def wsX7_uses_r2 : List Cond := [Cond.code yX4_at cX4_at 2 (some .int), Cond.instanceMethod yX1_remember, Cond.initialized RX1, Cond.selects RX1 yX1_remember yX1_remember, Cond.code yX1_remember cX1_remember 2 none, Cond.fieldLink RX1 11 "RainShelves$History" "rows" "[LRainShelves$Rain;", Cond.fieldLink RX1 20 "RainShelves$History" "next" "I", Cond.fieldLink RX1 28 "RainShelves$History" "known" "I", Cond.methodLink RX1 31 Lib.Math.min.name, Cond.static Lib.Math.min.name, Cond.initialized "java/lang/Math", Cond.code Lib.Math.min.name Lib.Math.min.code 2 (some .int), Cond.instanceMethod yX4_become, Cond.selects RX4 yX4_become yX4_become, Cond.code yX4_become cX4_become 3 none, Cond.fieldLink RX4 19 "RainShelves$Rain" "springs" "I", Cond.fieldLink RX4 23 "RainShelves$Rain" "lost" "I", Cond.instanceMethod yX4_take, Cond.selects RX4 yX4_take yX4_take, Cond.code yX4_take cX4_take 8 (some .int), Cond.methodLink RX4 52 Lib.Math.min.name]
def wsX7_uses : List Cond := .code yX7_uses cX7_uses 3 (some .int) :: ((wsX7_uses_r1 ++ wsX7_uses_r2) ++ wsX70 ++ wsX20 ++ wsX40 ++ wsX10)
def wsX7_pours_r1 : List Cond := [Cond.fieldLink RX7 10 "RainShelves" "house" "LRainShelves$House;", Cond.fieldLink RX7 28 "RainShelves" "rain" "LRainShelves$Rain;", Cond.fieldLink RX7 35 "RainShelves" "history" "LRainShelves$History;", Cond.instanceMethod yX2_has, Cond.initialized RX2, Cond.selects RX2 yX2_has yX2_has, Cond.code yX2_has cX2_has 2 (some .boolean), Cond.fieldLink RX2 30 "RainShelves$House" "pans" "I", Cond.methodLink RX7 72 yX7_isWithin, Cond.static yX7_isWithin, Cond.initialized RX7, Cond.code yX7_isWithin cX7_isWithin 3 (some .boolean), Cond.instanceMethod yX4_inPan, Cond.initialized RX4, Cond.selects RX4 yX4_inPan yX4_inPan, Cond.code yX4_inPan cX4_inPan 4 (some .int), Cond.fieldLink RX4 15 "RainShelves$Rain" "house" "LRainShelves$House;", Cond.methodLink RX4 36 yX4_amount, Cond.instanceMethod yX4_amount, Cond.selects RX4 yX4_amount yX4_amount, Cond.code yX4_amount cX4_amount 3 (some .int), Cond.fieldLink RX4 9 "RainShelves$Rain" "spoons" "[I", Cond.methodLink RX4 31 yX4_at, Cond.static yX4_at]
def wsX7_pours_r2 : List Cond := [Cond.code yX4_at cX4_at 2 (some .int), Cond.instanceMethod yX1_remember, Cond.initialized RX1, Cond.selects RX1 yX1_remember yX1_remember, Cond.code yX1_remember cX1_remember 2 none, Cond.fieldLink RX1 11 "RainShelves$History" "rows" "[LRainShelves$Rain;", Cond.fieldLink RX1 20 "RainShelves$History" "next" "I", Cond.fieldLink RX1 28 "RainShelves$History" "known" "I", Cond.methodLink RX1 31 Lib.Math.min.name, Cond.static Lib.Math.min.name, Cond.initialized "java/lang/Math", Cond.code Lib.Math.min.name Lib.Math.min.code 2 (some .int), Cond.instanceMethod yX4_become, Cond.selects RX4 yX4_become yX4_become, Cond.code yX4_become cX4_become 3 none, Cond.fieldLink RX4 19 "RainShelves$Rain" "springs" "I", Cond.fieldLink RX4 23 "RainShelves$Rain" "lost" "I", Cond.instanceMethod yX4_take, Cond.selects RX4 yX4_take yX4_take, Cond.code yX4_take cX4_take 8 (some .int), Cond.methodLink RX4 52 Lib.Math.min.name]
def wsX7_pours : List Cond := .code yX7_pours cX7_pours 4 (some .int) :: ((wsX7_pours_r1 ++ wsX7_pours_r2) ++ wsX70 ++ wsX20 ++ wsX40 ++ wsX10)
def wsX7_spring_r1 : List Cond := [Cond.fieldLink RX7 28 "RainShelves" "rain" "LRainShelves$Rain;", Cond.fieldLink RX7 35 "RainShelves" "history" "LRainShelves$History;", Cond.instanceMethod yX1_remember, Cond.initialized RX1, Cond.selects RX1 yX1_remember yX1_remember, Cond.code yX1_remember cX1_remember 2 none, Cond.fieldLink RX1 11 "RainShelves$History" "rows" "[LRainShelves$Rain;", Cond.fieldLink RX1 20 "RainShelves$History" "next" "I", Cond.fieldLink RX1 28 "RainShelves$History" "known" "I", Cond.methodLink RX1 31 Lib.Math.min.name, Cond.static Lib.Math.min.name, Cond.initialized "java/lang/Math", Cond.code Lib.Math.min.name Lib.Math.min.code 2 (some .int), Cond.instanceMethod yX4_become, Cond.initialized RX4, Cond.selects RX4 yX4_become yX4_become, Cond.code yX4_become cX4_become 3 none, Cond.fieldLink RX4 19 "RainShelves$Rain" "springs" "I", Cond.fieldLink RX4 23 "RainShelves$Rain" "lost" "I", Cond.fieldLink RX4 9 "RainShelves$Rain" "spoons" "[I", Cond.instanceMethod yX4_passSpring, Cond.selects RX4 yX4_passSpring yX4_passSpring, Cond.code yX4_passSpring cX4_passSpring 3 (some .int), Cond.fieldLink RX4 15 "RainShelves$Rain" "house" "LRainShelves$House;"]
def wsX7_spring_r2 : List Cond := [Cond.methodLink RX4 60 yX4_take, Cond.instanceMethod yX4_take, Cond.selects RX4 yX4_take yX4_take, Cond.code yX4_take cX4_take 8 (some .int), Cond.methodLink RX4 52 Lib.Math.min.name, Cond.methodLink RX4 36 yX4_amount, Cond.instanceMethod yX4_amount, Cond.selects RX4 yX4_amount yX4_amount, Cond.code yX4_amount cX4_amount 3 (some .int), Cond.methodLink RX4 31 yX4_at, Cond.static yX4_at, Cond.code yX4_at cX4_at 2 (some .int)]
def wsX7_spring : List Cond := .code yX7_spring cX7_spring 1 (some .int) :: ((wsX7_spring_r1 ++ wsX7_spring_r2) ++ wsX70 ++ wsX40 ++ wsX10 ++ wsX20)
def wsX7_splits_r1 : List Cond := [Cond.fieldLink RX7 10 "RainShelves" "house" "LRainShelves$House;", Cond.fieldLink RX7 28 "RainShelves" "rain" "LRainShelves$Rain;", Cond.fieldLink RX7 35 "RainShelves" "history" "LRainShelves$History;", Cond.instanceMethod yX2_has, Cond.initialized RX2, Cond.selects RX2 yX2_has yX2_has, Cond.code yX2_has cX2_has 2 (some .boolean), Cond.fieldLink RX2 30 "RainShelves$House" "pans" "I", Cond.instanceMethod yX4_inPan, Cond.initialized RX4, Cond.selects RX4 yX4_inPan yX4_inPan, Cond.code yX4_inPan cX4_inPan 4 (some .int), Cond.fieldLink RX4 15 "RainShelves$Rain" "house" "LRainShelves$House;", Cond.methodLink RX4 36 yX4_amount, Cond.instanceMethod yX4_amount, Cond.selects RX4 yX4_amount yX4_amount, Cond.code yX4_amount cX4_amount 3 (some .int), Cond.fieldLink RX4 9 "RainShelves$Rain" "spoons" "[I", Cond.methodLink RX4 31 yX4_at, Cond.static yX4_at, Cond.code yX4_at cX4_at 2 (some .int), Cond.instanceMethod yX1_remember, Cond.initialized RX1, Cond.selects RX1 yX1_remember yX1_remember]
def wsX7_splits_r2 : List Cond := [Cond.code yX1_remember cX1_remember 2 none, Cond.fieldLink RX1 11 "RainShelves$History" "rows" "[LRainShelves$Rain;", Cond.fieldLink RX1 20 "RainShelves$History" "next" "I", Cond.fieldLink RX1 28 "RainShelves$History" "known" "I", Cond.methodLink RX1 31 Lib.Math.min.name, Cond.static Lib.Math.min.name, Cond.initialized "java/lang/Math", Cond.code Lib.Math.min.name Lib.Math.min.code 2 (some .int), Cond.instanceMethod yX4_become, Cond.selects RX4 yX4_become yX4_become, Cond.code yX4_become cX4_become 3 none, Cond.fieldLink RX4 19 "RainShelves$Rain" "springs" "I", Cond.fieldLink RX4 23 "RainShelves$Rain" "lost" "I", Cond.instanceMethod yX4_take, Cond.selects RX4 yX4_take yX4_take, Cond.code yX4_take cX4_take 8 (some .int), Cond.methodLink RX4 52 Lib.Math.min.name]
def wsX7_splits : List Cond := .code yX7_splits cX7_splits 3 (some .int) :: ((wsX7_splits_r1 ++ wsX7_splits_r2) ++ wsX70 ++ wsX20 ++ wsX40 ++ wsX10)
def wsX7_undo : List Cond := .code yX7_undo cX7_undo 1 (some .int) :: ([.fieldLink RX7 35 "RainShelves" "history" "LRainShelves$History;", .fieldLink RX7 28 "RainShelves" "rain" "LRainShelves$Rain;", .instanceMethod yX1_restore, .initialized RX1, .selects RX1 yX1_restore yX1_restore, .code yX1_restore cX1_restore 2 none, .fieldLink RX1 20 "RainShelves$History" "next" "I", .fieldLink RX1 11 "RainShelves$History" "rows" "[LRainShelves$Rain;", .fieldLink RX1 28 "RainShelves$History" "known" "I", .instanceMethod yX4_become, .initialized RX4, .selects RX4 yX4_become yX4_become, .code yX4_become cX4_become 3 none, .fieldLink RX4 19 "RainShelves$Rain" "springs" "I", .fieldLink RX4 23 "RainShelves$Rain" "lost" "I", .fieldLink RX4 9 "RainShelves$Rain" "spoons" "[I"] ++ wsX70 ++ wsX10 ++ wsX40)
def wsX7_lasts : List Cond := .code yX7_lasts cX7_lasts 3 (some .int) :: ([.fieldLink RX7 10 "RainShelves" "house" "LRainShelves$House;", .fieldLink RX7 28 "RainShelves" "rain" "LRainShelves$Rain;", .instanceMethod yX2_has, .initialized RX2, .selects RX2 yX2_has yX2_has, .code yX2_has cX2_has 2 (some .boolean), .fieldLink RX2 30 "RainShelves$House" "pans" "I", .instanceMethod yX4_canBeReadIn, .initialized RX4, .selects RX4 yX4_canBeReadIn yX4_canBeReadIn, .code yX4_canBeReadIn cX4_canBeReadIn 10 (some .boolean), .fieldLink RX4 15 "RainShelves$Rain" "house" "LRainShelves$House;", .methodLink RX4 52 Lib.Math.min.name, .static Lib.Math.min.name, .initialized "java/lang/Math", .code Lib.Math.min.name Lib.Math.min.code 2 (some .int), .methodLink RX4 36 yX4_amount, .instanceMethod yX4_amount, .selects RX4 yX4_amount yX4_amount, .code yX4_amount cX4_amount 3 (some .int), .fieldLink RX4 9 "RainShelves$Rain" "spoons" "[I", .methodLink RX4 31 yX4_at, .static yX4_at, .code yX4_at cX4_at 2 (some .int)] ++ wsX70 ++ wsX20 ++ wsX40)
def wsX7_countReadableIn : List Cond := .code yX7_countReadableIn cX7_countReadableIn 4 (some .int) :: ([.fieldLink RX7 10 "RainShelves" "house" "LRainShelves$House;", .fieldLink RX7 28 "RainShelves" "rain" "LRainShelves$Rain;", .instanceMethod yX4_canBeReadIn, .initialized RX4, .selects RX4 yX4_canBeReadIn yX4_canBeReadIn, .code yX4_canBeReadIn cX4_canBeReadIn 10 (some .boolean), .fieldLink RX4 15 "RainShelves$Rain" "house" "LRainShelves$House;", .methodLink RX4 52 Lib.Math.min.name, .static Lib.Math.min.name, .initialized "java/lang/Math", .code Lib.Math.min.name Lib.Math.min.code 2 (some .int), .methodLink RX4 36 yX4_amount, .instanceMethod yX4_amount, .selects RX4 yX4_amount yX4_amount, .code yX4_amount cX4_amount 3 (some .int), .fieldLink RX4 9 "RainShelves$Rain" "spoons" "[I", .methodLink RX4 31 yX4_at, .static yX4_at, .code yX4_at cX4_at 2 (some .int)] ++ wsX70 ++ wsX20 ++ wsX40)
def wsX7_afterSprings : List Cond := .code yX7_afterSprings cX7_afterSprings 4 (some .int) :: ([.fieldLink RX7 10 "RainShelves" "house" "LRainShelves$House;", .methodLink RX7 175 Lib.Math.max.name, .static Lib.Math.max.name, .initialized "java/lang/Math", .code Lib.Math.max.name Lib.Math.max.code 2 (some .int)] ++ wsX70 ++ wsX20)
def wsX7_inSprings_r1 : List Cond := [Cond.fieldLink RX7 10 "RainShelves" "house" "LRainShelves$House;", Cond.fieldLink RX7 28 "RainShelves" "rain" "LRainShelves$Rain;", Cond.methodLink RX7 72 yX7_isWithin, Cond.static yX7_isWithin, Cond.initialized RX7, Cond.code yX7_isWithin cX7_isWithin 3 (some .boolean), Cond.methodLink RX7 166 yX7_countReadableIn, Cond.instanceMethod yX7_countReadableIn, Cond.selects RX7 yX7_countReadableIn yX7_countReadableIn, Cond.code yX7_countReadableIn cX7_countReadableIn 4 (some .int), Cond.instanceMethod yX4_canBeReadIn, Cond.initialized RX4, Cond.selects RX4 yX4_canBeReadIn yX4_canBeReadIn, Cond.code yX4_canBeReadIn cX4_canBeReadIn 10 (some .boolean), Cond.fieldLink RX4 15 "RainShelves$Rain" "house" "LRainShelves$House;", Cond.methodLink RX4 52 Lib.Math.min.name, Cond.static Lib.Math.min.name, Cond.initialized "java/lang/Math", Cond.code Lib.Math.min.name Lib.Math.min.code 2 (some .int), Cond.methodLink RX4 36 yX4_amount, Cond.instanceMethod yX4_amount, Cond.selects RX4 yX4_amount yX4_amount, Cond.code yX4_amount cX4_amount 3 (some .int), Cond.fieldLink RX4 9 "RainShelves$Rain" "spoons" "[I"]
def wsX7_inSprings_r2 : List Cond := [Cond.methodLink RX4 31 yX4_at, Cond.static yX4_at, Cond.code yX4_at cX4_at 2 (some .int), Cond.instanceMethod yX2_has, Cond.initialized RX2, Cond.selects RX2 yX2_has yX2_has, Cond.code yX2_has cX2_has 2 (some .boolean), Cond.fieldLink RX2 30 "RainShelves$House" "pans" "I", Cond.instanceMethod yX4_inPan, Cond.selects RX4 yX4_inPan yX4_inPan, Cond.code yX4_inPan cX4_inPan 4 (some .int), Cond.methodLink RX7 169 yX7_afterSprings, Cond.instanceMethod yX7_afterSprings, Cond.selects RX7 yX7_afterSprings yX7_afterSprings, Cond.code yX7_afterSprings cX7_afterSprings 4 (some .int), Cond.methodLink RX7 175 Lib.Math.max.name, Cond.static Lib.Math.max.name, Cond.code Lib.Math.max.name Lib.Math.max.code 2 (some .int)]
def wsX7_inSprings : List Cond := .code yX7_inSprings cX7_inSprings 3 (some .int) :: ((wsX7_inSprings_r1 ++ wsX7_inSprings_r2) ++ wsX70 ++ wsX20 ++ wsX40)
def wsX7_fire_r1 : List Cond := [Cond.fieldLink RX7 57 "RainShelves" "sets" "LRainShelves$Sets;", Cond.fieldLink RX7 10 "RainShelves" "house" "LRainShelves$House;", Cond.fieldLink RX7 28 "RainShelves" "rain" "LRainShelves$Rain;", Cond.methodLink RX7 72 yX7_isWithin, Cond.static yX7_isWithin, Cond.initialized RX7, Cond.code yX7_isWithin cX7_isWithin 3 (some .boolean), Cond.instanceMethod yX5_weigh, Cond.initialized RX5, Cond.selects RX5 yX5_weigh yX5_weigh, Cond.code yX5_weigh cX5_weigh 6 none, Cond.fieldLink RX5 18 "RainShelves$Sets" "size" "I", Cond.fieldLink RX5 27 "RainShelves$Sets" "shelf" "I", Cond.fieldLink RX5 32 "RainShelves$Sets" "hail" "I", Cond.fieldLink RX5 35 "RainShelves$Sets" "filled" "I", Cond.fieldLink RX5 9 "RainShelves$Sets" "weights" "[I", Cond.instanceMethod yX2_hailPans, Cond.initialized RX2, Cond.selects RX2 yX2_hailPans yX2_hailPans, Cond.code yX2_hailPans cX2_hailPans 3 (some .int), Cond.fieldLink RX2 30 "RainShelves$House" "pans" "I", Cond.fieldLink RX2 21 "RainShelves$House" "sorts" "[I", Cond.instanceMethod yX4_inPan, Cond.initialized RX4]
def wsX7_fire_r2 : List Cond := [Cond.selects RX4 yX4_inPan yX4_inPan, Cond.code yX4_inPan cX4_inPan 4 (some .int), Cond.fieldLink RX4 15 "RainShelves$Rain" "house" "LRainShelves$House;", Cond.methodLink RX4 36 yX4_amount, Cond.instanceMethod yX4_amount, Cond.selects RX4 yX4_amount yX4_amount, Cond.code yX4_amount cX4_amount 3 (some .int), Cond.fieldLink RX4 9 "RainShelves$Rain" "spoons" "[I", Cond.methodLink RX4 31 yX4_at, Cond.static yX4_at, Cond.code yX4_at cX4_at 2 (some .int), Cond.instanceMethod yX4_readable, Cond.selects RX4 yX4_readable yX4_readable, Cond.code yX4_readable cX4_readable 3 (some .int), Cond.methodLink RX4 71 yX4_canBeRead, Cond.instanceMethod yX4_canBeRead, Cond.selects RX4 yX4_canBeRead yX4_canBeRead, Cond.code yX4_canBeRead cX4_canBeRead 2 (some .boolean), Cond.methodLink RX4 64 yX4_canBeReadIn, Cond.instanceMethod yX4_canBeReadIn, Cond.selects RX4 yX4_canBeReadIn yX4_canBeReadIn, Cond.code yX4_canBeReadIn cX4_canBeReadIn 10 (some .boolean), Cond.methodLink RX4 52 Lib.Math.min.name, Cond.static Lib.Math.min.name]
def wsX7_fire_r3 : List Cond := [Cond.initialized "java/lang/Math", Cond.code Lib.Math.min.name Lib.Math.min.code 2 (some .int), Cond.instanceMethod yX5_bestFire, Cond.selects RX5 yX5_bestFire yX5_bestFire, Cond.code yX5_bestFire cX5_bestFire 5 (some .int), Cond.methodLink RX5 52 yX5_isBetterFire, Cond.instanceMethod yX5_isBetterFire, Cond.selects RX5 yX5_isBetterFire yX5_isBetterFire, Cond.code yX5_isBetterFire cX5_isBetterFire 5 (some .boolean), Cond.methodLink RX5 56 yX5_countLeft, Cond.static yX5_countLeft, Cond.code yX5_countLeft cX5_countLeft 2 (some .int), Cond.methodLink RX5 47 yJ6_bitCount_0f7a4, Cond.static yJ6_bitCount_0f7a4, Cond.initialized RJ6, Cond.code yJ6_bitCount_0f7a4 cJ6_bitCount_0f7a4 1 (some .int), Cond.constant RJ6 265 (1431655765), Cond.constant RJ6 266 (858993459), Cond.constant RJ6 267 (252645135)]
def wsX7_fire : List Cond := .code yX7_fire cX7_fire 5 (some .int) :: ((wsX7_fire_r1 ++ (wsX7_fire_r2 ++ wsX7_fire_r3)) ++ wsX70 ++ wsX50 ++ wsX20 ++ wsX40)
def wsX7_spoil_r1 : List Cond := [Cond.fieldLink RX7 10 "RainShelves" "house" "LRainShelves$House;", Cond.fieldLink RX7 28 "RainShelves" "rain" "LRainShelves$Rain;", Cond.instanceMethod yX2_has, Cond.initialized RX2, Cond.selects RX2 yX2_has yX2_has, Cond.code yX2_has cX2_has 2 (some .boolean), Cond.fieldLink RX2 30 "RainShelves$House" "pans" "I", Cond.instanceMethod yX4_canBeRead, Cond.initialized RX4, Cond.selects RX4 yX4_canBeRead yX4_canBeRead, Cond.code yX4_canBeRead cX4_canBeRead 2 (some .boolean), Cond.methodLink RX4 64 yX4_canBeReadIn, Cond.instanceMethod yX4_canBeReadIn, Cond.selects RX4 yX4_canBeReadIn yX4_canBeReadIn, Cond.code yX4_canBeReadIn cX4_canBeReadIn 10 (some .boolean), Cond.fieldLink RX4 15 "RainShelves$Rain" "house" "LRainShelves$House;", Cond.methodLink RX4 52 Lib.Math.min.name, Cond.static Lib.Math.min.name, Cond.initialized "java/lang/Math", Cond.code Lib.Math.min.name Lib.Math.min.code 2 (some .int), Cond.methodLink RX4 36 yX4_amount, Cond.instanceMethod yX4_amount, Cond.selects RX4 yX4_amount yX4_amount, Cond.code yX4_amount cX4_amount 3 (some .int)]
def wsX7_spoil_r2 : List Cond := [Cond.fieldLink RX4 9 "RainShelves$Rain" "spoons" "[I", Cond.methodLink RX4 31 yX4_at, Cond.static yX4_at, Cond.code yX4_at cX4_at 2 (some .int), Cond.instanceMethod yX4_inPan, Cond.selects RX4 yX4_inPan yX4_inPan, Cond.code yX4_inPan cX4_inPan 4 (some .int)]
def wsX7_spoil : List Cond := .code yX7_spoil cX7_spoil 2 (some .int) :: ((wsX7_spoil_r1 ++ wsX7_spoil_r2) ++ wsX70 ++ wsX20 ++ wsX40)
def wsX7_mix : List Cond := .code yX7_mix cX7_mix 9 (some .int) :: ([.fieldLink RX7 10 "RainShelves" "house" "LRainShelves$House;", .methodLink RX7 72 yX7_isWithin, .static yX7_isWithin, .initialized RX7, .code yX7_isWithin cX7_isWithin 3 (some .boolean), .instanceMethod yX2_spoonsOfLesser, .initialized RX2, .selects RX2 yX2_spoonsOfLesser yX2_spoonsOfLesser, .code yX2_spoonsOfLesser cX2_spoonsOfLesser 6 (some .int), .fieldLink RX2 9 "RainShelves$House" "years" "[I"] ++ wsX70 ++ wsX20)
def wsX7_levels : List Cond := .code yX7_levels cX7_levels 4 (some .int) :: ([.fieldLink RX7 10 "RainShelves" "house" "LRainShelves$House;", .fieldLink RX7 50 "RainShelves" "told" "LRainShelves$Levels;", .methodLink RX7 72 yX7_isWithin, .static yX7_isWithin, .initialized RX7, .code yX7_isWithin cX7_isWithin 3 (some .boolean), .instanceMethod yX2_has, .initialized RX2, .selects RX2 yX2_has yX2_has, .code yX2_has cX2_has 2 (some .boolean), .fieldLink RX2 30 "RainShelves$House" "pans" "I", .instanceMethod yX3_append, .initialized RX3, .selects RX3 yX3_append yX3_append, .code yX3_append cX3_append 4 (some .boolean), .fieldLink RX3 21 "RainShelves$Levels" "size" "I", .fieldLink RX3 9 "RainShelves$Levels" "springs" "[I", .fieldLink RX3 15 "RainShelves$Levels" "pans" "[I", .fieldLink RX3 18 "RainShelves$Levels" "spoons" "[I"] ++ wsX70 ++ wsX30 ++ wsX20)
def wsX7_forget : List Cond := .code yX7_forget cX7_forget 2 (some .int) :: ([.fieldLink RX7 50 "RainShelves" "told" "LRainShelves$Levels;"] ++ wsX70 ++ wsX30)
def wsX7_areLevelsSo_r1 : List Cond := [Cond.fieldLink RX7 50 "RainShelves" "told" "LRainShelves$Levels;", Cond.fieldLink RX7 28 "RainShelves" "rain" "LRainShelves$Rain;", Cond.instanceMethod yX4_inPan, Cond.initialized RX4, Cond.selects RX4 yX4_inPan yX4_inPan, Cond.code yX4_inPan cX4_inPan 4 (some .int), Cond.fieldLink RX4 15 "RainShelves$Rain" "house" "LRainShelves$House;", Cond.methodLink RX4 36 yX4_amount, Cond.instanceMethod yX4_amount, Cond.selects RX4 yX4_amount yX4_amount, Cond.code yX4_amount cX4_amount 3 (some .int), Cond.fieldLink RX4 9 "RainShelves$Rain" "spoons" "[I", Cond.methodLink RX4 31 yX4_at, Cond.static yX4_at, Cond.code yX4_at cX4_at 2 (some .int), Cond.methodLink RX7 169 yX7_afterSprings, Cond.instanceMethod yX7_afterSprings, Cond.selects RX7 yX7_afterSprings yX7_afterSprings, Cond.initialized RX7, Cond.code yX7_afterSprings cX7_afterSprings 4 (some .int), Cond.fieldLink RX7 10 "RainShelves" "house" "LRainShelves$House;", Cond.methodLink RX7 175 Lib.Math.max.name, Cond.static Lib.Math.max.name, Cond.initialized "java/lang/Math"]
def wsX7_areLevelsSo_r2 : List Cond := [Cond.code Lib.Math.max.name Lib.Math.max.code 2 (some .int)]
def wsX7_areLevelsSo : List Cond := .code yX7_areLevelsSo cX7_areLevelsSo 6 (some .boolean) :: ((wsX7_areLevelsSo_r1 ++ wsX7_areLevelsSo_r2) ++ wsX70 ++ wsX30 ++ wsX40 ++ wsX20)
def wsX7_theft_r1 : List Cond := [Cond.fieldLink RX7 10 "RainShelves" "house" "LRainShelves$House;", Cond.fieldLink RX7 28 "RainShelves" "rain" "LRainShelves$Rain;", Cond.methodLink RX7 199 Lib.Math.min.name, Cond.static Lib.Math.min.name, Cond.initialized "java/lang/Math", Cond.code Lib.Math.min.name Lib.Math.min.code 2 (some .int), Cond.methodLink RX7 72 yX7_isWithin, Cond.static yX7_isWithin, Cond.initialized RX7, Cond.code yX7_isWithin cX7_isWithin 3 (some .boolean), Cond.instanceMethod yX4_inPan, Cond.initialized RX4, Cond.selects RX4 yX4_inPan yX4_inPan, Cond.code yX4_inPan cX4_inPan 4 (some .int), Cond.fieldLink RX4 15 "RainShelves$Rain" "house" "LRainShelves$House;", Cond.methodLink RX4 36 yX4_amount, Cond.instanceMethod yX4_amount, Cond.selects RX4 yX4_amount yX4_amount, Cond.code yX4_amount cX4_amount 3 (some .int), Cond.fieldLink RX4 9 "RainShelves$Rain" "spoons" "[I", Cond.methodLink RX4 31 yX4_at, Cond.static yX4_at, Cond.code yX4_at cX4_at 2 (some .int), Cond.methodLink RX7 202 yX7_areLevelsSo]
def wsX7_theft_r2 : List Cond := [Cond.instanceMethod yX7_areLevelsSo, Cond.selects RX7 yX7_areLevelsSo yX7_areLevelsSo, Cond.code yX7_areLevelsSo cX7_areLevelsSo 6 (some .boolean), Cond.fieldLink RX7 50 "RainShelves" "told" "LRainShelves$Levels;", Cond.methodLink RX7 169 yX7_afterSprings, Cond.instanceMethod yX7_afterSprings, Cond.selects RX7 yX7_afterSprings yX7_afterSprings, Cond.code yX7_afterSprings cX7_afterSprings 4 (some .int), Cond.methodLink RX7 175 Lib.Math.max.name, Cond.static Lib.Math.max.name, Cond.code Lib.Math.max.name Lib.Math.max.code 2 (some .int)]
def wsX7_theft : List Cond := .code yX7_theft cX7_theft 8 (some .int) :: ((wsX7_theft_r1 ++ wsX7_theft_r2) ++ wsX70 ++ wsX20 ++ wsX40 ++ wsX30)
def wsX7_shelves_r1 : List Cond := [Cond.fieldLink RX7 57 "RainShelves" "sets" "LRainShelves$Sets;", Cond.fieldLink RX7 10 "RainShelves" "house" "LRainShelves$House;", Cond.fieldLink RX7 28 "RainShelves" "rain" "LRainShelves$Rain;", Cond.instanceMethod yX5_weigh, Cond.initialized RX5, Cond.selects RX5 yX5_weigh yX5_weigh, Cond.code yX5_weigh cX5_weigh 6 none, Cond.fieldLink RX5 18 "RainShelves$Sets" "size" "I", Cond.fieldLink RX5 27 "RainShelves$Sets" "shelf" "I", Cond.fieldLink RX5 32 "RainShelves$Sets" "hail" "I", Cond.fieldLink RX5 35 "RainShelves$Sets" "filled" "I", Cond.fieldLink RX5 9 "RainShelves$Sets" "weights" "[I", Cond.instanceMethod yX2_hailPans, Cond.initialized RX2, Cond.selects RX2 yX2_hailPans yX2_hailPans, Cond.code yX2_hailPans cX2_hailPans 3 (some .int), Cond.fieldLink RX2 30 "RainShelves$House" "pans" "I", Cond.fieldLink RX2 21 "RainShelves$House" "sorts" "[I", Cond.instanceMethod yX4_inPan, Cond.initialized RX4, Cond.selects RX4 yX4_inPan yX4_inPan, Cond.code yX4_inPan cX4_inPan 4 (some .int), Cond.fieldLink RX4 15 "RainShelves$Rain" "house" "LRainShelves$House;", Cond.methodLink RX4 36 yX4_amount]
def wsX7_shelves_r2 : List Cond := [Cond.instanceMethod yX4_amount, Cond.selects RX4 yX4_amount yX4_amount, Cond.code yX4_amount cX4_amount 3 (some .int), Cond.fieldLink RX4 9 "RainShelves$Rain" "spoons" "[I", Cond.methodLink RX4 31 yX4_at, Cond.static yX4_at, Cond.code yX4_at cX4_at 2 (some .int), Cond.instanceMethod yX5_fewestShelves, Cond.selects RX5 yX5_fewestShelves yX5_fewestShelves, Cond.code yX5_fewestShelves cX5_fewestShelves 2 (some .int), Cond.fieldLink RX5 15 "RainShelves$Sets" "fewest" "[I", Cond.methodLink RX5 60 yX5_isFilled, Cond.instanceMethod yX5_isFilled, Cond.selects RX5 yX5_isFilled yX5_isFilled, Cond.code yX5_isFilled cX5_isFilled 2 (some .boolean), Cond.methodLink RX5 64 yX5_fewestFor, Cond.instanceMethod yX5_fewestFor, Cond.selects RX5 yX5_fewestFor yX5_fewestFor, Cond.code yX5_fewestFor cX5_fewestFor 4 (some .int), Cond.methodLink RX5 70 Lib.Math.min.name, Cond.static Lib.Math.min.name, Cond.initialized "java/lang/Math", Cond.code Lib.Math.min.name Lib.Math.min.code 2 (some .int), Cond.methodLink RX5 67 yX5_fitsOneShelf]
def wsX7_shelves_r3 : List Cond := [Cond.instanceMethod yX5_fitsOneShelf, Cond.selects RX5 yX5_fitsOneShelf yX5_fitsOneShelf, Cond.code yX5_fitsOneShelf cX5_fitsOneShelf 3 (some .boolean)]
def wsX7_shelves : List Cond := .code yX7_shelves cX7_shelves 1 (some .int) :: ((wsX7_shelves_r1 ++ (wsX7_shelves_r2 ++ wsX7_shelves_r3)) ++ wsX70 ++ wsX50 ++ wsX20 ++ wsX40)
def wsX7_beside_r1 : List Cond := [Cond.fieldLink RX7 10 "RainShelves" "house" "LRainShelves$House;", Cond.fieldLink RX7 57 "RainShelves" "sets" "LRainShelves$Sets;", Cond.fieldLink RX7 28 "RainShelves" "rain" "LRainShelves$Rain;", Cond.instanceMethod yX2_has, Cond.initialized RX2, Cond.selects RX2 yX2_has yX2_has, Cond.code yX2_has cX2_has 2 (some .boolean), Cond.fieldLink RX2 30 "RainShelves$House" "pans" "I", Cond.instanceMethod yX5_weigh, Cond.initialized RX5, Cond.selects RX5 yX5_weigh yX5_weigh, Cond.code yX5_weigh cX5_weigh 6 none, Cond.fieldLink RX5 18 "RainShelves$Sets" "size" "I", Cond.fieldLink RX5 27 "RainShelves$Sets" "shelf" "I", Cond.fieldLink RX5 32 "RainShelves$Sets" "hail" "I", Cond.fieldLink RX5 35 "RainShelves$Sets" "filled" "I", Cond.fieldLink RX5 9 "RainShelves$Sets" "weights" "[I", Cond.instanceMethod yX2_hailPans, Cond.selects RX2 yX2_hailPans yX2_hailPans, Cond.code yX2_hailPans cX2_hailPans 3 (some .int), Cond.fieldLink RX2 21 "RainShelves$House" "sorts" "[I", Cond.instanceMethod yX4_inPan, Cond.initialized RX4, Cond.selects RX4 yX4_inPan yX4_inPan]
def wsX7_beside_r2 : List Cond := [Cond.code yX4_inPan cX4_inPan 4 (some .int), Cond.fieldLink RX4 15 "RainShelves$Rain" "house" "LRainShelves$House;", Cond.methodLink RX4 36 yX4_amount, Cond.instanceMethod yX4_amount, Cond.selects RX4 yX4_amount yX4_amount, Cond.code yX4_amount cX4_amount 3 (some .int), Cond.fieldLink RX4 9 "RainShelves$Rain" "spoons" "[I", Cond.methodLink RX4 31 yX4_at, Cond.static yX4_at, Cond.code yX4_at cX4_at 2 (some .int), Cond.instanceMethod yX5_mostBeside, Cond.selects RX5 yX5_mostBeside yX5_mostBeside, Cond.code yX5_mostBeside cX5_mostBeside 5 (some .int), Cond.methodLink RX5 75 Lib.Math.max.name, Cond.static Lib.Math.max.name, Cond.initialized "java/lang/Math", Cond.code Lib.Math.max.name Lib.Math.max.code 2 (some .int), Cond.methodLink RX5 60 yX5_isFilled, Cond.instanceMethod yX5_isFilled, Cond.selects RX5 yX5_isFilled yX5_isFilled, Cond.code yX5_isFilled cX5_isFilled 2 (some .boolean), Cond.methodLink RX5 67 yX5_fitsOneShelf, Cond.instanceMethod yX5_fitsOneShelf, Cond.selects RX5 yX5_fitsOneShelf yX5_fitsOneShelf]
def wsX7_beside_r3 : List Cond := [Cond.code yX5_fitsOneShelf cX5_fitsOneShelf 3 (some .boolean), Cond.methodLink RX5 47 yJ6_bitCount_0f7a4, Cond.static yJ6_bitCount_0f7a4, Cond.initialized RJ6, Cond.code yJ6_bitCount_0f7a4 cJ6_bitCount_0f7a4 1 (some .int), Cond.constant RJ6 265 (1431655765), Cond.constant RJ6 266 (858993459), Cond.constant RJ6 267 (252645135)]
def wsX7_beside : List Cond := .code yX7_beside cX7_beside 2 (some .int) :: ((wsX7_beside_r1 ++ (wsX7_beside_r2 ++ wsX7_beside_r3)) ++ wsX70 ++ wsX20 ++ wsX50 ++ wsX40)
def wsX7_odds_r1 : List Cond := [Cond.fieldLink RX7 64 "RainShelves" "frost" "LRainShelves$Frost;", Cond.fieldLink RX7 28 "RainShelves" "rain" "LRainShelves$Rain;", Cond.methodLink RX7 72 yX7_isWithin, Cond.static yX7_isWithin, Cond.initialized RX7, Cond.code yX7_isWithin cX7_isWithin 3 (some .boolean), Cond.instanceMethod yX4_readable, Cond.initialized RX4, Cond.selects RX4 yX4_readable yX4_readable, Cond.code yX4_readable cX4_readable 3 (some .int), Cond.fieldLink RX4 15 "RainShelves$Rain" "house" "LRainShelves$House;", Cond.methodLink RX4 71 yX4_canBeRead, Cond.instanceMethod yX4_canBeRead, Cond.selects RX4 yX4_canBeRead yX4_canBeRead, Cond.code yX4_canBeRead cX4_canBeRead 2 (some .boolean), Cond.methodLink RX4 64 yX4_canBeReadIn, Cond.instanceMethod yX4_canBeReadIn, Cond.selects RX4 yX4_canBeReadIn yX4_canBeReadIn, Cond.code yX4_canBeReadIn cX4_canBeReadIn 10 (some .boolean), Cond.methodLink RX4 52 Lib.Math.min.name, Cond.static Lib.Math.min.name, Cond.initialized "java/lang/Math", Cond.code Lib.Math.min.name Lib.Math.min.code 2 (some .int), Cond.methodLink RX4 36 yX4_amount]
def wsX7_odds_r2 : List Cond := [Cond.instanceMethod yX4_amount, Cond.selects RX4 yX4_amount yX4_amount, Cond.code yX4_amount cX4_amount 3 (some .int), Cond.fieldLink RX4 9 "RainShelves$Rain" "spoons" "[I", Cond.methodLink RX4 31 yX4_at, Cond.static yX4_at, Cond.code yX4_at cX4_at 2 (some .int), Cond.methodLink RX7 218 yJ6_bitCount_0f7a4, Cond.static yJ6_bitCount_0f7a4, Cond.initialized RJ6, Cond.code yJ6_bitCount_0f7a4 cJ6_bitCount_0f7a4 1 (some .int), Cond.constant RJ6 265 (1431655765), Cond.constant RJ6 266 (858993459), Cond.constant RJ6 267 (252645135), Cond.instanceMethod yX0_reckon, Cond.initialized RX0, Cond.selects RX0 yX0_reckon yX0_reckon, Cond.code yX0_reckon cX0_reckon 5 none, Cond.fieldLink RX0 15 "RainShelves$Frost" "lower" "I", Cond.fieldLink RX0 9 "RainShelves$Frost" "cases" "[I", Cond.fieldLink RX0 23 "RainShelves$Frost" "upper" "I", Cond.methodLink RX0 26 Lib.Math.max.name, Cond.static Lib.Math.max.name, Cond.code Lib.Math.max.name Lib.Math.max.code 2 (some .int)]
def wsX7_odds_r3 : List Cond := [Cond.methodLink RX0 19 yX0_addPan, Cond.instanceMethod yX0_addPan, Cond.selects RX0 yX0_addPan yX0_addPan, Cond.code yX0_addPan cX0_addPan 3 none, Cond.methodLink RX0 32 yX0_reduce, Cond.instanceMethod yX0_reduce, Cond.selects RX0 yX0_reduce yX0_reduce, Cond.code yX0_reduce cX0_reduce 3 none]
def wsX7_odds : List Cond := .code yX7_odds cX7_odds 4 (some .int) :: ((wsX7_odds_r1 ++ (wsX7_odds_r2 ++ wsX7_odds_r3)) ++ wsX70 ++ wsX00 ++ wsX40 ++ wsX20)
def wsX7_rateOfPan : List Cond := .code yX7_rateOfPan cX7_rateOfPan 2 (some .int) :: ([.fieldLink RX7 68 "RainShelves" "traced" "J", .fieldLink RX7 28 "RainShelves" "rain" "LRainShelves$Rain;", .instanceMethod yX4_inPan, .initialized RX4, .selects RX4 yX4_inPan yX4_inPan, .code yX4_inPan cX4_inPan 4 (some .int), .fieldLink RX4 15 "RainShelves$Rain" "house" "LRainShelves$House;", .methodLink RX4 36 yX4_amount, .instanceMethod yX4_amount, .selects RX4 yX4_amount yX4_amount, .code yX4_amount cX4_amount 3 (some .int), .fieldLink RX4 9 "RainShelves$Rain" "spoons" "[I", .methodLink RX4 31 yX4_at, .static yX4_at, .code yX4_at cX4_at 2 (some .int)] ++ wsX70 ++ wsX40 ++ wsX20)
def wsX7_rateOfSaucer : List Cond := .code yX7_rateOfSaucer cX7_rateOfSaucer 2 (some .int) :: ([.fieldLink RX7 68 "RainShelves" "traced" "J", .constantLong RX7 252 (10), .fieldLink RX7 10 "RainShelves" "house" "LRainShelves$House;", .methodLink RX7 234 yX7_rateOfPan, .instanceMethod yX7_rateOfPan, .selects RX7 yX7_rateOfPan yX7_rateOfPan, .initialized RX7, .code yX7_rateOfPan cX7_rateOfPan 2 (some .int), .fieldLink RX7 28 "RainShelves" "rain" "LRainShelves$Rain;", .instanceMethod yX4_inPan, .initialized RX4, .selects RX4 yX4_inPan yX4_inPan, .code yX4_inPan cX4_inPan 4 (some .int), .fieldLink RX4 15 "RainShelves$Rain" "house" "LRainShelves$House;", .methodLink RX4 36 yX4_amount, .instanceMethod yX4_amount, .selects RX4 yX4_amount yX4_amount, .code yX4_amount cX4_amount 3 (some .int), .fieldLink RX4 9 "RainShelves$Rain" "spoons" "[I", .methodLink RX4 31 yX4_at, .static yX4_at, .code yX4_at cX4_at 2 (some .int)] ++ wsX70 ++ wsX20 ++ wsX40)
def wsX7_rateOfBottle : List Cond := .code yX7_rateOfBottle cX7_rateOfBottle 2 (some .int) :: ([.fieldLink RX7 68 "RainShelves" "traced" "J", .constantLong RX7 254 (100), .fieldLink RX7 10 "RainShelves" "house" "LRainShelves$House;", .methodLink RX7 234 yX7_rateOfPan, .instanceMethod yX7_rateOfPan, .selects RX7 yX7_rateOfPan yX7_rateOfPan, .initialized RX7, .code yX7_rateOfPan cX7_rateOfPan 2 (some .int), .fieldLink RX7 28 "RainShelves" "rain" "LRainShelves$Rain;", .instanceMethod yX4_inPan, .initialized RX4, .selects RX4 yX4_inPan yX4_inPan, .code yX4_inPan cX4_inPan 4 (some .int), .fieldLink RX4 15 "RainShelves$Rain" "house" "LRainShelves$House;", .methodLink RX4 36 yX4_amount, .instanceMethod yX4_amount, .selects RX4 yX4_amount yX4_amount, .code yX4_amount cX4_amount 3 (some .int), .fieldLink RX4 9 "RainShelves$Rain" "spoons" "[I", .methodLink RX4 31 yX4_at, .static yX4_at, .code yX4_at cX4_at 2 (some .int)] ++ wsX70 ++ wsX20 ++ wsX40)
def wsX7_rateOfFont_r1 : List Cond := [Cond.fieldLink RX7 68 "RainShelves" "traced" "J", Cond.constantLong RX7 256 (1000), Cond.methodLink RX7 237 yX7_rateOfSaucer, Cond.instanceMethod yX7_rateOfSaucer, Cond.selects RX7 yX7_rateOfSaucer yX7_rateOfSaucer, Cond.initialized RX7, Cond.code yX7_rateOfSaucer cX7_rateOfSaucer 2 (some .int), Cond.constantLong RX7 252 (10), Cond.fieldLink RX7 10 "RainShelves" "house" "LRainShelves$House;", Cond.methodLink RX7 234 yX7_rateOfPan, Cond.instanceMethod yX7_rateOfPan, Cond.selects RX7 yX7_rateOfPan yX7_rateOfPan, Cond.code yX7_rateOfPan cX7_rateOfPan 2 (some .int), Cond.fieldLink RX7 28 "RainShelves" "rain" "LRainShelves$Rain;", Cond.instanceMethod yX4_inPan, Cond.initialized RX4, Cond.selects RX4 yX4_inPan yX4_inPan, Cond.code yX4_inPan cX4_inPan 4 (some .int), Cond.fieldLink RX4 15 "RainShelves$Rain" "house" "LRainShelves$House;", Cond.methodLink RX4 36 yX4_amount, Cond.instanceMethod yX4_amount, Cond.selects RX4 yX4_amount yX4_amount, Cond.code yX4_amount cX4_amount 3 (some .int), Cond.fieldLink RX4 9 "RainShelves$Rain" "spoons" "[I"]
def wsX7_rateOfFont_r2 : List Cond := [Cond.methodLink RX4 31 yX4_at, Cond.static yX4_at, Cond.code yX4_at cX4_at 2 (some .int)]
def wsX7_rateOfFont : List Cond := .code yX7_rateOfFont cX7_rateOfFont 2 (some .int) :: ((wsX7_rateOfFont_r1 ++ wsX7_rateOfFont_r2) ++ wsX70 ++ wsX20 ++ wsX40)
def wsX7_rateOfPhial_r1 : List Cond := [Cond.fieldLink RX7 68 "RainShelves" "traced" "J", Cond.constantLong RX7 258 (10000), Cond.methodLink RX7 240 yX7_rateOfBottle, Cond.instanceMethod yX7_rateOfBottle, Cond.selects RX7 yX7_rateOfBottle yX7_rateOfBottle, Cond.initialized RX7, Cond.code yX7_rateOfBottle cX7_rateOfBottle 2 (some .int), Cond.constantLong RX7 254 (100), Cond.fieldLink RX7 10 "RainShelves" "house" "LRainShelves$House;", Cond.methodLink RX7 234 yX7_rateOfPan, Cond.instanceMethod yX7_rateOfPan, Cond.selects RX7 yX7_rateOfPan yX7_rateOfPan, Cond.code yX7_rateOfPan cX7_rateOfPan 2 (some .int), Cond.fieldLink RX7 28 "RainShelves" "rain" "LRainShelves$Rain;", Cond.instanceMethod yX4_inPan, Cond.initialized RX4, Cond.selects RX4 yX4_inPan yX4_inPan, Cond.code yX4_inPan cX4_inPan 4 (some .int), Cond.fieldLink RX4 15 "RainShelves$Rain" "house" "LRainShelves$House;", Cond.methodLink RX4 36 yX4_amount, Cond.instanceMethod yX4_amount, Cond.selects RX4 yX4_amount yX4_amount, Cond.code yX4_amount cX4_amount 3 (some .int), Cond.fieldLink RX4 9 "RainShelves$Rain" "spoons" "[I"]
def wsX7_rateOfPhial_r2 : List Cond := [Cond.methodLink RX4 31 yX4_at, Cond.static yX4_at, Cond.code yX4_at cX4_at 2 (some .int)]
def wsX7_rateOfPhial : List Cond := .code yX7_rateOfPhial cX7_rateOfPhial 2 (some .int) :: ((wsX7_rateOfPhial_r1 ++ wsX7_rateOfPhial_r2) ++ wsX70 ++ wsX20 ++ wsX40)
def wsX7_rateOfUrn : List Cond := .code yX7_rateOfUrn cX7_rateOfUrn 2 (some .int) :: ([.fieldLink RX7 68 "RainShelves" "traced" "J", .constantLong RX7 260 (100000), .fieldLink RX7 28 "RainShelves" "rain" "LRainShelves$Rain;", .methodLink RX7 234 yX7_rateOfPan, .instanceMethod yX7_rateOfPan, .selects RX7 yX7_rateOfPan yX7_rateOfPan, .initialized RX7, .code yX7_rateOfPan cX7_rateOfPan 2 (some .int), .instanceMethod yX4_inPan, .initialized RX4, .selects RX4 yX4_inPan yX4_inPan, .code yX4_inPan cX4_inPan 4 (some .int), .fieldLink RX4 15 "RainShelves$Rain" "house" "LRainShelves$House;", .methodLink RX4 36 yX4_amount, .instanceMethod yX4_amount, .selects RX4 yX4_amount yX4_amount, .code yX4_amount cX4_amount 3 (some .int), .fieldLink RX4 9 "RainShelves$Rain" "spoons" "[I", .methodLink RX4 31 yX4_at, .static yX4_at, .code yX4_at cX4_at 2 (some .int)] ++ wsX70 ++ wsX40 ++ wsX20)
def wsX7_rate_r1 : List Cond := [Cond.fieldLink RX7 10 "RainShelves" "house" "LRainShelves$House;", Cond.constant RX7 233 (-1000000), Cond.instanceMethod yX2_has, Cond.initialized RX2, Cond.selects RX2 yX2_has yX2_has, Cond.code yX2_has cX2_has 2 (some .boolean), Cond.fieldLink RX2 30 "RainShelves$House" "pans" "I", Cond.methodLink RX7 234 yX7_rateOfPan, Cond.instanceMethod yX7_rateOfPan, Cond.selects RX7 yX7_rateOfPan yX7_rateOfPan, Cond.initialized RX7, Cond.code yX7_rateOfPan cX7_rateOfPan 2 (some .int), Cond.fieldLink RX7 68 "RainShelves" "traced" "J", Cond.fieldLink RX7 28 "RainShelves" "rain" "LRainShelves$Rain;", Cond.instanceMethod yX4_inPan, Cond.initialized RX4, Cond.selects RX4 yX4_inPan yX4_inPan, Cond.code yX4_inPan cX4_inPan 4 (some .int), Cond.fieldLink RX4 15 "RainShelves$Rain" "house" "LRainShelves$House;", Cond.methodLink RX4 36 yX4_amount, Cond.instanceMethod yX4_amount, Cond.selects RX4 yX4_amount yX4_amount, Cond.code yX4_amount cX4_amount 3 (some .int), Cond.fieldLink RX4 9 "RainShelves$Rain" "spoons" "[I"]
def wsX7_rate_r2 : List Cond := [Cond.methodLink RX4 31 yX4_at, Cond.static yX4_at, Cond.code yX4_at cX4_at 2 (some .int), Cond.methodLink RX7 237 yX7_rateOfSaucer, Cond.instanceMethod yX7_rateOfSaucer, Cond.selects RX7 yX7_rateOfSaucer yX7_rateOfSaucer, Cond.code yX7_rateOfSaucer cX7_rateOfSaucer 2 (some .int), Cond.constantLong RX7 252 (10), Cond.methodLink RX7 240 yX7_rateOfBottle, Cond.instanceMethod yX7_rateOfBottle, Cond.selects RX7 yX7_rateOfBottle yX7_rateOfBottle, Cond.code yX7_rateOfBottle cX7_rateOfBottle 2 (some .int), Cond.constantLong RX7 254 (100), Cond.methodLink RX7 243 yX7_rateOfFont, Cond.instanceMethod yX7_rateOfFont, Cond.selects RX7 yX7_rateOfFont yX7_rateOfFont, Cond.code yX7_rateOfFont cX7_rateOfFont 2 (some .int), Cond.constantLong RX7 256 (1000), Cond.methodLink RX7 246 yX7_rateOfPhial, Cond.instanceMethod yX7_rateOfPhial, Cond.selects RX7 yX7_rateOfPhial yX7_rateOfPhial, Cond.code yX7_rateOfPhial cX7_rateOfPhial 2 (some .int), Cond.constantLong RX7 258 (10000), Cond.methodLink RX7 249 yX7_rateOfUrn]
def wsX7_rate_r3 : List Cond := [Cond.instanceMethod yX7_rateOfUrn, Cond.selects RX7 yX7_rateOfUrn yX7_rateOfUrn, Cond.code yX7_rateOfUrn cX7_rateOfUrn 2 (some .int), Cond.constantLong RX7 260 (100000)]
def wsX7_rate : List Cond := .code yX7_rate cX7_rate 3 (some .int) :: ((wsX7_rate_r1 ++ (wsX7_rate_r2 ++ wsX7_rate_r3)) ++ wsX70 ++ wsX20 ++ wsX40)
def wsX7_keep : List Cond := .code yX7_keep cX7_keep 2 (some .int) :: ([.fieldLink RX7 39 "RainShelves" "images" "[LRainShelves$Rain;", .fieldLink RX7 28 "RainShelves" "rain" "LRainShelves$Rain;", .fieldLink RX7 43 "RainShelves" "kept" "[Z", .methodLink RX7 72 yX7_isWithin, .static yX7_isWithin, .initialized RX7, .code yX7_isWithin cX7_isWithin 3 (some .boolean), .instanceMethod yX4_become, .initialized RX4, .selects RX4 yX4_become yX4_become, .code yX4_become cX4_become 3 none, .fieldLink RX4 19 "RainShelves$Rain" "springs" "I", .fieldLink RX4 23 "RainShelves$Rain" "lost" "I", .fieldLink RX4 9 "RainShelves$Rain" "spoons" "[I"] ++ wsX70 ++ wsX40)
def wsX7_back : List Cond := .code yX7_back cX7_back 2 (some .int) :: ([.fieldLink RX7 43 "RainShelves" "kept" "[Z", .fieldLink RX7 28 "RainShelves" "rain" "LRainShelves$Rain;", .fieldLink RX7 39 "RainShelves" "images" "[LRainShelves$Rain;", .fieldLink RX7 35 "RainShelves" "history" "LRainShelves$History;", .methodLink RX7 72 yX7_isWithin, .static yX7_isWithin, .initialized RX7, .code yX7_isWithin cX7_isWithin 3 (some .boolean), .instanceMethod yX4_become, .initialized RX4, .selects RX4 yX4_become yX4_become, .code yX4_become cX4_become 3 none, .fieldLink RX4 19 "RainShelves$Rain" "springs" "I", .fieldLink RX4 23 "RainShelves$Rain" "lost" "I", .fieldLink RX4 9 "RainShelves$Rain" "spoons" "[I"] ++ wsX70 ++ wsX10 ++ wsX40)
def wsX7_count : List Cond := .code yX7_count cX7_count 2 (some .int) :: ([.fieldLink RX7 10 "RainShelves" "house" "LRainShelves$House;", .fieldLink RX7 50 "RainShelves" "told" "LRainShelves$Levels;", .fieldLink RX7 19 "RainShelves" "text" "LRainShelves$Text;"] ++ wsX70 ++ wsX20 ++ wsX30 ++ wsX60)
def wsX7_trace : List Cond := .code yX7_trace cX7_trace 1 (some .long) :: ([.fieldLink RX7 68 "RainShelves" "traced" "J"] ++ wsX70)
def wsX8_letterAt : List Cond := .code yX8_letterAt cX8_letterAt 2 (some .int) :: ([.fieldLink RX8 55 "RainShelvesModel" "typed" "I", .fieldLink RX8 7 "RainShelvesModel" "text" "[I"] ++ wsX80)
def wsX8_in : List Cond := .code yX8_in cX8_in 3 (some .boolean) :: ([])
def wsX8_isDigit : List Cond := .code yX8_isDigit cX8_isDigit 1 (some .boolean) :: ([.methodLink RX8 51 yX8_in, .static yX8_in, .initialized RX8, .code yX8_in cX8_in 3 (some .boolean)])
def wsX8_token : List Cond := .code yX8_token cX8_token 2 none :: ([.fieldLink RX8 59 "RainShelvesModel" "at" "I", .fieldLink RX8 66 "RainShelvesModel" "start" "I", .fieldLink RX8 73 "RainShelvesModel" "sort" "I", .fieldLink RX8 76 "RainShelvesModel" "value" "I", .fieldLink RX8 7 "RainShelvesModel" "text" "[I", .methodLink RX8 62 yX8_letterAt, .instanceMethod yX8_letterAt, .selects RX8 yX8_letterAt yX8_letterAt, .initialized RX8, .code yX8_letterAt cX8_letterAt 2 (some .int), .fieldLink RX8 55 "RainShelvesModel" "typed" "I", .methodLink RX8 69 yX8_isDigit, .static yX8_isDigit, .code yX8_isDigit cX8_isDigit 1 (some .boolean), .methodLink RX8 51 yX8_in, .static yX8_in, .code yX8_in cX8_in 3 (some .boolean)] ++ wsX80)
def wsX8_number : List Cond := .code yX8_number cX8_number 4 (some .boolean) :: ([.fieldLink RX8 16 "RainShelvesModel" "draft" "[I", .fieldLink RX8 76 "RainShelvesModel" "value" "I", .fieldLink RX8 73 "RainShelvesModel" "sort" "I", .methodLink RX8 79 yX8_token, .instanceMethod yX8_token, .selects RX8 yX8_token yX8_token, .initialized RX8, .code yX8_token cX8_token 2 none, .fieldLink RX8 59 "RainShelvesModel" "at" "I", .fieldLink RX8 66 "RainShelvesModel" "start" "I", .fieldLink RX8 7 "RainShelvesModel" "text" "[I", .methodLink RX8 62 yX8_letterAt, .instanceMethod yX8_letterAt, .selects RX8 yX8_letterAt yX8_letterAt, .code yX8_letterAt cX8_letterAt 2 (some .int), .fieldLink RX8 55 "RainShelvesModel" "typed" "I", .methodLink RX8 69 yX8_isDigit, .static yX8_isDigit, .code yX8_isDigit cX8_isDigit 1 (some .boolean), .methodLink RX8 51 yX8_in, .static yX8_in, .code yX8_in cX8_in 3 (some .boolean)] ++ wsX80)
def wsX8_once_r1 : List Cond := [Cond.fieldLink RX8 16 "RainShelvesModel" "draft" "[I", Cond.methodLink RX8 82 yX8_number, Cond.instanceMethod yX8_number, Cond.selects RX8 yX8_number yX8_number, Cond.initialized RX8, Cond.code yX8_number cX8_number 4 (some .boolean), Cond.fieldLink RX8 76 "RainShelvesModel" "value" "I", Cond.fieldLink RX8 73 "RainShelvesModel" "sort" "I", Cond.methodLink RX8 79 yX8_token, Cond.instanceMethod yX8_token, Cond.selects RX8 yX8_token yX8_token, Cond.code yX8_token cX8_token 2 none, Cond.fieldLink RX8 59 "RainShelvesModel" "at" "I", Cond.fieldLink RX8 66 "RainShelvesModel" "start" "I", Cond.fieldLink RX8 7 "RainShelvesModel" "text" "[I", Cond.methodLink RX8 62 yX8_letterAt, Cond.instanceMethod yX8_letterAt, Cond.selects RX8 yX8_letterAt yX8_letterAt, Cond.code yX8_letterAt cX8_letterAt 2 (some .int), Cond.fieldLink RX8 55 "RainShelvesModel" "typed" "I", Cond.methodLink RX8 69 yX8_isDigit, Cond.static yX8_isDigit, Cond.code yX8_isDigit cX8_isDigit 1 (some .boolean), Cond.methodLink RX8 51 yX8_in]
def wsX8_once_r2 : List Cond := [Cond.static yX8_in, Cond.code yX8_in cX8_in 3 (some .boolean)]
def wsX8_once : List Cond := .code yX8_once cX8_once 5 (some .boolean) :: ((wsX8_once_r1 ++ wsX8_once_r2) ++ wsX80)
def wsX8_readsItem_r1 : List Cond := [Cond.fieldLink RX8 73 "RainShelvesModel" "sort" "I", Cond.fieldLink RX8 76 "RainShelvesModel" "value" "I", Cond.fieldLink RX8 16 "RainShelvesModel" "draft" "[I", Cond.methodLink RX8 82 yX8_number, Cond.instanceMethod yX8_number, Cond.selects RX8 yX8_number yX8_number, Cond.initialized RX8, Cond.code yX8_number cX8_number 4 (some .boolean), Cond.methodLink RX8 79 yX8_token, Cond.instanceMethod yX8_token, Cond.selects RX8 yX8_token yX8_token, Cond.code yX8_token cX8_token 2 none, Cond.fieldLink RX8 59 "RainShelvesModel" "at" "I", Cond.fieldLink RX8 66 "RainShelvesModel" "start" "I", Cond.fieldLink RX8 7 "RainShelvesModel" "text" "[I", Cond.methodLink RX8 62 yX8_letterAt, Cond.instanceMethod yX8_letterAt, Cond.selects RX8 yX8_letterAt yX8_letterAt, Cond.code yX8_letterAt cX8_letterAt 2 (some .int), Cond.fieldLink RX8 55 "RainShelvesModel" "typed" "I", Cond.methodLink RX8 69 yX8_isDigit, Cond.static yX8_isDigit, Cond.code yX8_isDigit cX8_isDigit 1 (some .boolean), Cond.methodLink RX8 51 yX8_in]
def wsX8_readsItem_r2 : List Cond := [Cond.static yX8_in, Cond.code yX8_in cX8_in 3 (some .boolean), Cond.methodLink RX8 85 yX8_once, Cond.instanceMethod yX8_once, Cond.selects RX8 yX8_once yX8_once, Cond.code yX8_once cX8_once 5 (some .boolean)]
def wsX8_readsItem : List Cond := .code yX8_readsItem cX8_readsItem 3 (some .boolean) :: ((wsX8_readsItem_r1 ++ wsX8_readsItem_r2) ++ wsX80)
def wsX8_reads_r1 : List Cond := [Cond.fieldLink RX8 16 "RainShelvesModel" "draft" "[I", Cond.fieldLink RX8 59 "RainShelvesModel" "at" "I", Cond.fieldLink RX8 73 "RainShelvesModel" "sort" "I", Cond.methodLink RX8 79 yX8_token, Cond.instanceMethod yX8_token, Cond.selects RX8 yX8_token yX8_token, Cond.initialized RX8, Cond.code yX8_token cX8_token 2 none, Cond.fieldLink RX8 66 "RainShelvesModel" "start" "I", Cond.fieldLink RX8 76 "RainShelvesModel" "value" "I", Cond.fieldLink RX8 7 "RainShelvesModel" "text" "[I", Cond.methodLink RX8 62 yX8_letterAt, Cond.instanceMethod yX8_letterAt, Cond.selects RX8 yX8_letterAt yX8_letterAt, Cond.code yX8_letterAt cX8_letterAt 2 (some .int), Cond.fieldLink RX8 55 "RainShelvesModel" "typed" "I", Cond.methodLink RX8 69 yX8_isDigit, Cond.static yX8_isDigit, Cond.code yX8_isDigit cX8_isDigit 1 (some .boolean), Cond.methodLink RX8 51 yX8_in, Cond.static yX8_in, Cond.code yX8_in cX8_in 3 (some .boolean), Cond.methodLink RX8 89 yX8_readsItem, Cond.instanceMethod yX8_readsItem]
def wsX8_reads_r2 : List Cond := [Cond.selects RX8 yX8_readsItem yX8_readsItem, Cond.code yX8_readsItem cX8_readsItem 3 (some .boolean), Cond.methodLink RX8 82 yX8_number, Cond.instanceMethod yX8_number, Cond.selects RX8 yX8_number yX8_number, Cond.code yX8_number cX8_number 4 (some .boolean), Cond.methodLink RX8 85 yX8_once, Cond.instanceMethod yX8_once, Cond.selects RX8 yX8_once yX8_once, Cond.code yX8_once cX8_once 5 (some .boolean)]
def wsX8_reads : List Cond := .code yX8_reads cX8_reads 2 (some .boolean) :: ((wsX8_reads_r1 ++ wsX8_reads_r2) ++ wsX80)
def wsX8_tells : List Cond := .code yX8_tells cX8_tells 2 none :: ([.fieldLink RX8 13 "RainShelvesModel" "told" "[I", .fieldLink RX8 16 "RainShelvesModel" "draft" "[I", .fieldLink RX8 19 "RainShelvesModel" "s" "[I", .fieldLink RX8 92 "RainShelvesModel" "known" "I", .fieldLink RX8 95 "RainShelvesModel" "many" "I", .fieldLink RX8 28 "RainShelvesModel" "kept" "[Z"] ++ wsX80)
def wsX8_init_r1 : List Cond := [Cond.methodLink RX8 1 objectInit, Cond.instanceMethod objectInit, Cond.code objectInit ⟨#[0xb1]⟩ 1 none, Cond.arrayClass .int, Cond.fieldLink RX8 7 "RainShelvesModel" "text" "[I", Cond.fieldLink RX8 13 "RainShelvesModel" "told" "[I", Cond.fieldLink RX8 16 "RainShelvesModel" "draft" "[I", Cond.fieldLink RX8 19 "RainShelvesModel" "s" "[I", Cond.fieldLink RX8 22 "RainShelvesModel" "past" "[I", Cond.fieldLink RX8 25 "RainShelvesModel" "images" "[I", Cond.arrayClass .boolean, Cond.fieldLink RX8 28 "RainShelvesModel" "kept" "[Z", Cond.fieldLink RX8 32 "RainShelvesModel" "notes" "[I", Cond.fieldLink RX8 35 "RainShelvesModel" "noted" "[I", Cond.fieldLink RX8 38 "RainShelvesModel" "held" "[I", Cond.fieldLink RX8 41 "RainShelvesModel" "few" "[I", Cond.methodLink RX8 44 yX8_reads, Cond.instanceMethod yX8_reads, Cond.selects RX8 yX8_reads yX8_reads, Cond.initialized RX8, Cond.code yX8_reads cX8_reads 2 (some .boolean), Cond.fieldLink RX8 59 "RainShelvesModel" "at" "I", Cond.fieldLink RX8 73 "RainShelvesModel" "sort" "I", Cond.methodLink RX8 79 yX8_token]
def wsX8_init_r2 : List Cond := [Cond.instanceMethod yX8_token, Cond.selects RX8 yX8_token yX8_token, Cond.code yX8_token cX8_token 2 none, Cond.fieldLink RX8 66 "RainShelvesModel" "start" "I", Cond.fieldLink RX8 76 "RainShelvesModel" "value" "I", Cond.methodLink RX8 62 yX8_letterAt, Cond.instanceMethod yX8_letterAt, Cond.selects RX8 yX8_letterAt yX8_letterAt, Cond.code yX8_letterAt cX8_letterAt 2 (some .int), Cond.fieldLink RX8 55 "RainShelvesModel" "typed" "I", Cond.methodLink RX8 69 yX8_isDigit, Cond.static yX8_isDigit, Cond.code yX8_isDigit cX8_isDigit 1 (some .boolean), Cond.methodLink RX8 51 yX8_in, Cond.static yX8_in, Cond.code yX8_in cX8_in 3 (some .boolean), Cond.methodLink RX8 89 yX8_readsItem, Cond.instanceMethod yX8_readsItem, Cond.selects RX8 yX8_readsItem yX8_readsItem, Cond.code yX8_readsItem cX8_readsItem 3 (some .boolean), Cond.methodLink RX8 82 yX8_number, Cond.instanceMethod yX8_number, Cond.selects RX8 yX8_number yX8_number, Cond.code yX8_number cX8_number 4 (some .boolean)]
def wsX8_init_r3 : List Cond := [Cond.methodLink RX8 85 yX8_once, Cond.instanceMethod yX8_once, Cond.selects RX8 yX8_once yX8_once, Cond.code yX8_once cX8_once 5 (some .boolean), Cond.methodLink RX8 48 yX8_tells, Cond.instanceMethod yX8_tells, Cond.selects RX8 yX8_tells yX8_tells, Cond.code yX8_tells cX8_tells 2 none, Cond.fieldLink RX8 92 "RainShelvesModel" "known" "I", Cond.fieldLink RX8 95 "RainShelvesModel" "many" "I"]
def wsX8_init : List Cond := .code yX8_init cX8_init 1 none :: ((wsX8_init_r1 ++ (wsX8_init_r2 ++ wsX8_init_r3)) ++ wsX80)
def wsX8_isPan : List Cond := .code yX8_isPan cX8_isPan 2 (some .boolean) :: ([.fieldLink RX8 13 "RainShelvesModel" "told" "[I", .methodLink RX8 51 yX8_in, .static yX8_in, .initialized RX8, .code yX8_in cX8_in 3 (some .boolean)] ++ wsX80)
def wsX8_ones : List Cond := .code yX8_ones cX8_ones 3 (some .int) :: ([])
def wsX8_type : List Cond := .code yX8_type cX8_type 2 (some .int) :: ([.fieldLink RX8 55 "RainShelvesModel" "typed" "I", .fieldLink RX8 7 "RainShelvesModel" "text" "[I", .methodLink RX8 51 yX8_in, .static yX8_in, .initialized RX8, .code yX8_in cX8_in 3 (some .boolean)] ++ wsX80)
def wsX8_clear : List Cond := .code yX8_clear cX8_clear 2 (some .int) :: ([.fieldLink RX8 55 "RainShelvesModel" "typed" "I"] ++ wsX80)
def wsX8_house_r1 : List Cond := [Cond.fieldLink RX8 66 "RainShelvesModel" "start" "I", Cond.fieldLink RX8 55 "RainShelvesModel" "typed" "I", Cond.fieldLink RX8 13 "RainShelvesModel" "told" "[I", Cond.methodLink RX8 44 yX8_reads, Cond.instanceMethod yX8_reads, Cond.selects RX8 yX8_reads yX8_reads, Cond.initialized RX8, Cond.code yX8_reads cX8_reads 2 (some .boolean), Cond.fieldLink RX8 16 "RainShelvesModel" "draft" "[I", Cond.fieldLink RX8 59 "RainShelvesModel" "at" "I", Cond.fieldLink RX8 73 "RainShelvesModel" "sort" "I", Cond.methodLink RX8 79 yX8_token, Cond.instanceMethod yX8_token, Cond.selects RX8 yX8_token yX8_token, Cond.code yX8_token cX8_token 2 none, Cond.fieldLink RX8 76 "RainShelvesModel" "value" "I", Cond.fieldLink RX8 7 "RainShelvesModel" "text" "[I", Cond.methodLink RX8 62 yX8_letterAt, Cond.instanceMethod yX8_letterAt, Cond.selects RX8 yX8_letterAt yX8_letterAt, Cond.code yX8_letterAt cX8_letterAt 2 (some .int), Cond.methodLink RX8 69 yX8_isDigit, Cond.static yX8_isDigit, Cond.code yX8_isDigit cX8_isDigit 1 (some .boolean)]
def wsX8_house_r2 : List Cond := [Cond.methodLink RX8 51 yX8_in, Cond.static yX8_in, Cond.code yX8_in cX8_in 3 (some .boolean), Cond.methodLink RX8 89 yX8_readsItem, Cond.instanceMethod yX8_readsItem, Cond.selects RX8 yX8_readsItem yX8_readsItem, Cond.code yX8_readsItem cX8_readsItem 3 (some .boolean), Cond.methodLink RX8 82 yX8_number, Cond.instanceMethod yX8_number, Cond.selects RX8 yX8_number yX8_number, Cond.code yX8_number cX8_number 4 (some .boolean), Cond.methodLink RX8 85 yX8_once, Cond.instanceMethod yX8_once, Cond.selects RX8 yX8_once yX8_once, Cond.code yX8_once cX8_once 5 (some .boolean), Cond.methodLink RX8 48 yX8_tells, Cond.instanceMethod yX8_tells, Cond.selects RX8 yX8_tells yX8_tells, Cond.code yX8_tells cX8_tells 2 none, Cond.fieldLink RX8 19 "RainShelvesModel" "s" "[I", Cond.fieldLink RX8 92 "RainShelvesModel" "known" "I", Cond.fieldLink RX8 95 "RainShelvesModel" "many" "I", Cond.fieldLink RX8 28 "RainShelvesModel" "kept" "[Z"]
def wsX8_house : List Cond := .code yX8_house cX8_house 1 (some .int) :: ((wsX8_house_r1 ++ wsX8_house_r2) ++ wsX80)
def wsX8_full : List Cond := .code yX8_full cX8_full 4 (some .int) :: ([.fieldLink RX8 19 "RainShelvesModel" "s" "[I"] ++ wsX80)
def wsX8_isRead : List Cond := .code yX8_isRead cX8_isRead 2 (some .boolean) :: ([.fieldLink RX8 19 "RainShelvesModel" "s" "[I", .fieldLink RX8 13 "RainShelvesModel" "told" "[I", .methodLink RX8 98 yX8_full, .instanceMethod yX8_full, .selects RX8 yX8_full yX8_full, .initialized RX8, .code yX8_full cX8_full 4 (some .int)] ++ wsX80)
def wsX8_allRead : List Cond := .code yX8_allRead cX8_allRead 3 (some .int) :: ([.fieldLink RX8 13 "RainShelvesModel" "told" "[I", .methodLink RX8 101 yX8_isRead, .instanceMethod yX8_isRead, .selects RX8 yX8_isRead yX8_isRead, .initialized RX8, .code yX8_isRead cX8_isRead 2 (some .boolean), .fieldLink RX8 19 "RainShelvesModel" "s" "[I", .methodLink RX8 98 yX8_full, .instanceMethod yX8_full, .selects RX8 yX8_full yX8_full, .code yX8_full cX8_full 4 (some .int)] ++ wsX80)
def wsX8_pan : List Cond := .code yX8_pan cX8_pan 6 (some .int) :: ([.fieldLink RX8 13 "RainShelvesModel" "told" "[I", .fieldLink RX8 19 "RainShelvesModel" "s" "[I", .methodLink RX8 104 yX8_isPan, .instanceMethod yX8_isPan, .selects RX8 yX8_isPan yX8_isPan, .initialized RX8, .code yX8_isPan cX8_isPan 2 (some .boolean), .methodLink RX8 51 yX8_in, .static yX8_in, .code yX8_in cX8_in 3 (some .boolean), .methodLink RX8 98 yX8_full, .instanceMethod yX8_full, .selects RX8 yX8_full yX8_full, .code yX8_full cX8_full 4 (some .int), .methodLink RX8 101 yX8_isRead, .instanceMethod yX8_isRead, .selects RX8 yX8_isRead yX8_isRead, .code yX8_isRead cX8_isRead 2 (some .boolean)] ++ wsX80)
def wsX8_holds : List Cond := .code yX8_holds cX8_holds 3 (some .int) :: ([.fieldLink RX8 19 "RainShelvesModel" "s" "[I", .methodLink RX8 104 yX8_isPan, .instanceMethod yX8_isPan, .selects RX8 yX8_isPan yX8_isPan, .initialized RX8, .code yX8_isPan cX8_isPan 2 (some .boolean), .fieldLink RX8 13 "RainShelvesModel" "told" "[I", .methodLink RX8 51 yX8_in, .static yX8_in, .code yX8_in cX8_in 3 (some .boolean)] ++ wsX80)
def wsX8_all : List Cond := .code yX8_all cX8_all 3 (some .int) :: ([.fieldLink RX8 13 "RainShelvesModel" "told" "[I", .methodLink RX8 98 yX8_full, .instanceMethod yX8_full, .selects RX8 yX8_full yX8_full, .initialized RX8, .code yX8_full cX8_full 4 (some .int), .fieldLink RX8 19 "RainShelvesModel" "s" "[I"] ++ wsX80)
def wsX8_wettest : List Cond := .code yX8_wettest cX8_wettest 7 (some .int) :: ([.fieldLink RX8 13 "RainShelvesModel" "told" "[I", .fieldLink RX8 19 "RainShelvesModel" "s" "[I"] ++ wsX80)
def wsX8_now : List Cond := .code yX8_now cX8_now 2 (some .int) :: ([.fieldLink RX8 19 "RainShelvesModel" "s" "[I", .fieldLink RX8 92 "RainShelvesModel" "known" "I", .methodLink RX8 107 yX8_all, .instanceMethod yX8_all, .selects RX8 yX8_all yX8_all, .initialized RX8, .code yX8_all cX8_all 3 (some .int), .fieldLink RX8 13 "RainShelvesModel" "told" "[I", .methodLink RX8 98 yX8_full, .instanceMethod yX8_full, .selects RX8 yX8_full yX8_full, .code yX8_full cX8_full 4 (some .int), .methodLink RX8 111 yX8_allRead, .instanceMethod yX8_allRead, .selects RX8 yX8_allRead yX8_allRead, .code yX8_allRead cX8_allRead 3 (some .int), .methodLink RX8 101 yX8_isRead, .instanceMethod yX8_isRead, .selects RX8 yX8_isRead yX8_isRead, .code yX8_isRead cX8_isRead 2 (some .boolean), .methodLink RX8 114 yX8_wettest, .instanceMethod yX8_wettest, .selects RX8 yX8_wettest yX8_wettest, .code yX8_wettest cX8_wettest 7 (some .int)] ++ wsX80)
def wsX8_keeps : List Cond := .code yX8_keeps cX8_keeps 2 none :: ([.fieldLink RX8 92 "RainShelvesModel" "known" "I", .fieldLink RX8 22 "RainShelvesModel" "past" "[I", .fieldLink RX8 19 "RainShelvesModel" "s" "[I"] ++ wsX80)
def wsX8_takes : List Cond := .code yX8_takes cX8_takes 4 (some .int) :: ([.fieldLink RX8 19 "RainShelvesModel" "s" "[I", .fieldLink RX8 13 "RainShelvesModel" "told" "[I"] ++ wsX80)
def wsX8_goes : List Cond := .code yX8_goes cX8_goes 6 (some .int) :: ([.fieldLink RX8 19 "RainShelvesModel" "s" "[I", .methodLink RX8 117 yX8_takes, .instanceMethod yX8_takes, .selects RX8 yX8_takes yX8_takes, .initialized RX8, .code yX8_takes cX8_takes 4 (some .int), .fieldLink RX8 13 "RainShelvesModel" "told" "[I"] ++ wsX80)
def wsX8_uses_r1 : List Cond := [Cond.methodLink RX8 104 yX8_isPan, Cond.instanceMethod yX8_isPan, Cond.selects RX8 yX8_isPan yX8_isPan, Cond.initialized RX8, Cond.code yX8_isPan cX8_isPan 2 (some .boolean), Cond.fieldLink RX8 13 "RainShelvesModel" "told" "[I", Cond.methodLink RX8 51 yX8_in, Cond.static yX8_in, Cond.code yX8_in cX8_in 3 (some .boolean), Cond.methodLink RX8 98 yX8_full, Cond.instanceMethod yX8_full, Cond.selects RX8 yX8_full yX8_full, Cond.code yX8_full cX8_full 4 (some .int), Cond.fieldLink RX8 19 "RainShelvesModel" "s" "[I", Cond.methodLink RX8 120 yX8_keeps, Cond.instanceMethod yX8_keeps, Cond.selects RX8 yX8_keeps yX8_keeps, Cond.code yX8_keeps cX8_keeps 2 none, Cond.fieldLink RX8 92 "RainShelvesModel" "known" "I", Cond.fieldLink RX8 22 "RainShelvesModel" "past" "[I", Cond.methodLink RX8 123 yX8_goes, Cond.instanceMethod yX8_goes, Cond.selects RX8 yX8_goes yX8_goes, Cond.code yX8_goes cX8_goes 6 (some .int)]
def wsX8_uses_r2 : List Cond := [Cond.methodLink RX8 117 yX8_takes, Cond.instanceMethod yX8_takes, Cond.selects RX8 yX8_takes yX8_takes, Cond.code yX8_takes cX8_takes 4 (some .int)]
def wsX8_uses : List Cond := .code yX8_uses cX8_uses 3 (some .int) :: ((wsX8_uses_r1 ++ wsX8_uses_r2) ++ wsX80)
def wsX8_pours_r1 : List Cond := [Cond.methodLink RX8 104 yX8_isPan, Cond.instanceMethod yX8_isPan, Cond.selects RX8 yX8_isPan yX8_isPan, Cond.initialized RX8, Cond.code yX8_isPan cX8_isPan 2 (some .boolean), Cond.fieldLink RX8 13 "RainShelvesModel" "told" "[I", Cond.methodLink RX8 51 yX8_in, Cond.static yX8_in, Cond.code yX8_in cX8_in 3 (some .boolean), Cond.methodLink RX8 98 yX8_full, Cond.instanceMethod yX8_full, Cond.selects RX8 yX8_full yX8_full, Cond.code yX8_full cX8_full 4 (some .int), Cond.fieldLink RX8 19 "RainShelvesModel" "s" "[I", Cond.methodLink RX8 120 yX8_keeps, Cond.instanceMethod yX8_keeps, Cond.selects RX8 yX8_keeps yX8_keeps, Cond.code yX8_keeps cX8_keeps 2 none, Cond.fieldLink RX8 92 "RainShelvesModel" "known" "I", Cond.fieldLink RX8 22 "RainShelvesModel" "past" "[I", Cond.methodLink RX8 123 yX8_goes, Cond.instanceMethod yX8_goes, Cond.selects RX8 yX8_goes yX8_goes, Cond.code yX8_goes cX8_goes 6 (some .int)]
def wsX8_pours_r2 : List Cond := [Cond.methodLink RX8 117 yX8_takes, Cond.instanceMethod yX8_takes, Cond.selects RX8 yX8_takes yX8_takes, Cond.code yX8_takes cX8_takes 4 (some .int)]
def wsX8_pours : List Cond := .code yX8_pours cX8_pours 4 (some .int) :: ((wsX8_pours_r1 ++ wsX8_pours_r2) ++ wsX80)
def wsX8_springs : List Cond := .code yX8_springs cX8_springs 3 (some .int) :: ([.fieldLink RX8 13 "RainShelvesModel" "told" "[I", .fieldLink RX8 19 "RainShelvesModel" "s" "[I", .methodLink RX8 123 yX8_goes, .instanceMethod yX8_goes, .selects RX8 yX8_goes yX8_goes, .initialized RX8, .code yX8_goes cX8_goes 6 (some .int), .methodLink RX8 117 yX8_takes, .instanceMethod yX8_takes, .selects RX8 yX8_takes yX8_takes, .code yX8_takes cX8_takes 4 (some .int)] ++ wsX80)
def wsX8_spring : List Cond := .code yX8_spring cX8_spring 1 (some .int) :: ([.fieldLink RX8 19 "RainShelvesModel" "s" "[I", .methodLink RX8 120 yX8_keeps, .instanceMethod yX8_keeps, .selects RX8 yX8_keeps yX8_keeps, .initialized RX8, .code yX8_keeps cX8_keeps 2 none, .fieldLink RX8 92 "RainShelvesModel" "known" "I", .fieldLink RX8 22 "RainShelvesModel" "past" "[I", .methodLink RX8 127 yX8_springs, .instanceMethod yX8_springs, .selects RX8 yX8_springs yX8_springs, .code yX8_springs cX8_springs 3 (some .int), .fieldLink RX8 13 "RainShelvesModel" "told" "[I", .methodLink RX8 123 yX8_goes, .instanceMethod yX8_goes, .selects RX8 yX8_goes yX8_goes, .code yX8_goes cX8_goes 6 (some .int), .methodLink RX8 117 yX8_takes, .instanceMethod yX8_takes, .selects RX8 yX8_takes yX8_takes, .code yX8_takes cX8_takes 4 (some .int)] ++ wsX80)
def wsX8_splits_r1 : List Cond := [Cond.methodLink RX8 104 yX8_isPan, Cond.instanceMethod yX8_isPan, Cond.selects RX8 yX8_isPan yX8_isPan, Cond.initialized RX8, Cond.code yX8_isPan cX8_isPan 2 (some .boolean), Cond.fieldLink RX8 13 "RainShelvesModel" "told" "[I", Cond.methodLink RX8 51 yX8_in, Cond.static yX8_in, Cond.code yX8_in cX8_in 3 (some .boolean), Cond.methodLink RX8 98 yX8_full, Cond.instanceMethod yX8_full, Cond.selects RX8 yX8_full yX8_full, Cond.code yX8_full cX8_full 4 (some .int), Cond.fieldLink RX8 19 "RainShelvesModel" "s" "[I", Cond.methodLink RX8 120 yX8_keeps, Cond.instanceMethod yX8_keeps, Cond.selects RX8 yX8_keeps yX8_keeps, Cond.code yX8_keeps cX8_keeps 2 none, Cond.fieldLink RX8 92 "RainShelvesModel" "known" "I", Cond.fieldLink RX8 22 "RainShelvesModel" "past" "[I", Cond.methodLink RX8 123 yX8_goes, Cond.instanceMethod yX8_goes, Cond.selects RX8 yX8_goes yX8_goes, Cond.code yX8_goes cX8_goes 6 (some .int)]
def wsX8_splits_r2 : List Cond := [Cond.methodLink RX8 117 yX8_takes, Cond.instanceMethod yX8_takes, Cond.selects RX8 yX8_takes yX8_takes, Cond.code yX8_takes cX8_takes 4 (some .int)]
def wsX8_splits : List Cond := .code yX8_splits cX8_splits 3 (some .int) :: ((wsX8_splits_r1 ++ wsX8_splits_r2) ++ wsX80)
def wsX8_undo : List Cond := .code yX8_undo cX8_undo 2 (some .int) :: ([.fieldLink RX8 92 "RainShelvesModel" "known" "I", .fieldLink RX8 19 "RainShelvesModel" "s" "[I", .fieldLink RX8 22 "RainShelvesModel" "past" "[I"] ++ wsX80)
def wsX8_remembers : List Cond := .code yX8_remembers cX8_remembers 2 none :: ([.fieldLink RX8 38 "RainShelvesModel" "held" "[I", .fieldLink RX8 19 "RainShelvesModel" "s" "[I"] ++ wsX80)
def wsX8_lets : List Cond := .code yX8_lets cX8_lets 2 none :: ([.fieldLink RX8 19 "RainShelvesModel" "s" "[I", .fieldLink RX8 38 "RainShelvesModel" "held" "[I"] ++ wsX80)
def wsX8_lasts_r1 : List Cond := [Cond.methodLink RX8 104 yX8_isPan, Cond.instanceMethod yX8_isPan, Cond.selects RX8 yX8_isPan yX8_isPan, Cond.initialized RX8, Cond.code yX8_isPan cX8_isPan 2 (some .boolean), Cond.fieldLink RX8 13 "RainShelvesModel" "told" "[I", Cond.methodLink RX8 51 yX8_in, Cond.static yX8_in, Cond.code yX8_in cX8_in 3 (some .boolean), Cond.methodLink RX8 130 yX8_remembers, Cond.instanceMethod yX8_remembers, Cond.selects RX8 yX8_remembers yX8_remembers, Cond.code yX8_remembers cX8_remembers 2 none, Cond.fieldLink RX8 38 "RainShelvesModel" "held" "[I", Cond.fieldLink RX8 19 "RainShelvesModel" "s" "[I", Cond.methodLink RX8 101 yX8_isRead, Cond.instanceMethod yX8_isRead, Cond.selects RX8 yX8_isRead yX8_isRead, Cond.code yX8_isRead cX8_isRead 2 (some .boolean), Cond.methodLink RX8 98 yX8_full, Cond.instanceMethod yX8_full, Cond.selects RX8 yX8_full yX8_full, Cond.code yX8_full cX8_full 4 (some .int), Cond.methodLink RX8 127 yX8_springs]
def wsX8_lasts_r2 : List Cond := [Cond.instanceMethod yX8_springs, Cond.selects RX8 yX8_springs yX8_springs, Cond.code yX8_springs cX8_springs 3 (some .int), Cond.methodLink RX8 123 yX8_goes, Cond.instanceMethod yX8_goes, Cond.selects RX8 yX8_goes yX8_goes, Cond.code yX8_goes cX8_goes 6 (some .int), Cond.methodLink RX8 117 yX8_takes, Cond.instanceMethod yX8_takes, Cond.selects RX8 yX8_takes yX8_takes, Cond.code yX8_takes cX8_takes 4 (some .int), Cond.methodLink RX8 133 yX8_lets, Cond.instanceMethod yX8_lets, Cond.selects RX8 yX8_lets yX8_lets, Cond.code yX8_lets cX8_lets 2 none]
def wsX8_lasts : List Cond := .code yX8_lasts cX8_lasts 4 (some .int) :: ((wsX8_lasts_r1 ++ wsX8_lasts_r2) ++ wsX80)
def wsX8_inSprings_r1 : List Cond := [Cond.methodLink RX8 51 yX8_in, Cond.static yX8_in, Cond.initialized RX8, Cond.code yX8_in cX8_in 3 (some .boolean), Cond.methodLink RX8 104 yX8_isPan, Cond.instanceMethod yX8_isPan, Cond.selects RX8 yX8_isPan yX8_isPan, Cond.code yX8_isPan cX8_isPan 2 (some .boolean), Cond.fieldLink RX8 13 "RainShelvesModel" "told" "[I", Cond.methodLink RX8 130 yX8_remembers, Cond.instanceMethod yX8_remembers, Cond.selects RX8 yX8_remembers yX8_remembers, Cond.code yX8_remembers cX8_remembers 2 none, Cond.fieldLink RX8 38 "RainShelvesModel" "held" "[I", Cond.fieldLink RX8 19 "RainShelvesModel" "s" "[I", Cond.methodLink RX8 127 yX8_springs, Cond.instanceMethod yX8_springs, Cond.selects RX8 yX8_springs yX8_springs, Cond.code yX8_springs cX8_springs 3 (some .int), Cond.methodLink RX8 123 yX8_goes, Cond.instanceMethod yX8_goes, Cond.selects RX8 yX8_goes yX8_goes, Cond.code yX8_goes cX8_goes 6 (some .int), Cond.methodLink RX8 117 yX8_takes]
def wsX8_inSprings_r2 : List Cond := [Cond.instanceMethod yX8_takes, Cond.selects RX8 yX8_takes yX8_takes, Cond.code yX8_takes cX8_takes 4 (some .int), Cond.methodLink RX8 111 yX8_allRead, Cond.instanceMethod yX8_allRead, Cond.selects RX8 yX8_allRead yX8_allRead, Cond.code yX8_allRead cX8_allRead 3 (some .int), Cond.methodLink RX8 101 yX8_isRead, Cond.instanceMethod yX8_isRead, Cond.selects RX8 yX8_isRead yX8_isRead, Cond.code yX8_isRead cX8_isRead 2 (some .boolean), Cond.methodLink RX8 98 yX8_full, Cond.instanceMethod yX8_full, Cond.selects RX8 yX8_full yX8_full, Cond.code yX8_full cX8_full 4 (some .int), Cond.methodLink RX8 136 yX8_ones, Cond.static yX8_ones, Cond.code yX8_ones cX8_ones 3 (some .int), Cond.methodLink RX8 133 yX8_lets, Cond.instanceMethod yX8_lets, Cond.selects RX8 yX8_lets yX8_lets, Cond.code yX8_lets cX8_lets 2 none]
def wsX8_inSprings : List Cond := .code yX8_inSprings cX8_inSprings 4 (some .int) :: ((wsX8_inSprings_r1 ++ wsX8_inSprings_r2) ++ wsX80)
def wsX8_fire : List Cond := .code yX8_fire cX8_fire 10 (some .int) :: ([.fieldLink RX8 13 "RainShelvesModel" "told" "[I", .methodLink RX8 51 yX8_in, .static yX8_in, .initialized RX8, .code yX8_in cX8_in 3 (some .boolean), .methodLink RX8 98 yX8_full, .instanceMethod yX8_full, .selects RX8 yX8_full yX8_full, .code yX8_full cX8_full 4 (some .int), .fieldLink RX8 19 "RainShelvesModel" "s" "[I", .methodLink RX8 111 yX8_allRead, .instanceMethod yX8_allRead, .selects RX8 yX8_allRead yX8_allRead, .code yX8_allRead cX8_allRead 3 (some .int), .methodLink RX8 101 yX8_isRead, .instanceMethod yX8_isRead, .selects RX8 yX8_isRead yX8_isRead, .code yX8_isRead cX8_isRead 2 (some .boolean), .methodLink RX8 136 yX8_ones, .static yX8_ones, .code yX8_ones cX8_ones 3 (some .int)] ++ wsX80)
def wsX8_spoil : List Cond := .code yX8_spoil cX8_spoil 2 (some .int) :: ([.fieldLink RX8 19 "RainShelvesModel" "s" "[I", .fieldLink RX8 13 "RainShelvesModel" "told" "[I", .methodLink RX8 104 yX8_isPan, .instanceMethod yX8_isPan, .selects RX8 yX8_isPan yX8_isPan, .initialized RX8, .code yX8_isPan cX8_isPan 2 (some .boolean), .methodLink RX8 51 yX8_in, .static yX8_in, .code yX8_in cX8_in 3 (some .boolean), .methodLink RX8 101 yX8_isRead, .instanceMethod yX8_isRead, .selects RX8 yX8_isRead yX8_isRead, .code yX8_isRead cX8_isRead 2 (some .boolean), .methodLink RX8 98 yX8_full, .instanceMethod yX8_full, .selects RX8 yX8_full yX8_full, .code yX8_full cX8_full 4 (some .int)] ++ wsX80)
def wsX8_mix : List Cond := .code yX8_mix cX8_mix 10 (some .int) :: ([.fieldLink RX8 13 "RainShelvesModel" "told" "[I", .methodLink RX8 51 yX8_in, .static yX8_in, .initialized RX8, .code yX8_in cX8_in 3 (some .boolean)] ++ wsX80)
def wsX8_levels : List Cond := .code yX8_levels cX8_levels 4 (some .int) :: ([.fieldLink RX8 95 "RainShelvesModel" "many" "I", .fieldLink RX8 32 "RainShelvesModel" "notes" "[I", .fieldLink RX8 35 "RainShelvesModel" "noted" "[I", .methodLink RX8 51 yX8_in, .static yX8_in, .initialized RX8, .code yX8_in cX8_in 3 (some .boolean), .methodLink RX8 104 yX8_isPan, .instanceMethod yX8_isPan, .selects RX8 yX8_isPan yX8_isPan, .code yX8_isPan cX8_isPan 2 (some .boolean), .fieldLink RX8 13 "RainShelvesModel" "told" "[I"] ++ wsX80)
def wsX8_forget : List Cond := .code yX8_forget cX8_forget 2 (some .int) :: ([.fieldLink RX8 95 "RainShelvesModel" "many" "I"] ++ wsX80)
def wsX8_isSo : List Cond := .code yX8_isSo cX8_isSo 5 (some .boolean) :: ([.fieldLink RX8 95 "RainShelvesModel" "many" "I", .fieldLink RX8 32 "RainShelvesModel" "notes" "[I", .fieldLink RX8 13 "RainShelvesModel" "told" "[I", .fieldLink RX8 35 "RainShelvesModel" "noted" "[I", .methodLink RX8 98 yX8_full, .instanceMethod yX8_full, .selects RX8 yX8_full yX8_full, .initialized RX8, .code yX8_full cX8_full 4 (some .int), .fieldLink RX8 19 "RainShelvesModel" "s" "[I"] ++ wsX80)
def wsX8_theft_r1 : List Cond := [Cond.fieldLink RX8 13 "RainShelvesModel" "told" "[I", Cond.methodLink RX8 51 yX8_in, Cond.static yX8_in, Cond.initialized RX8, Cond.code yX8_in cX8_in 3 (some .boolean), Cond.methodLink RX8 98 yX8_full, Cond.instanceMethod yX8_full, Cond.selects RX8 yX8_full yX8_full, Cond.code yX8_full cX8_full 4 (some .int), Cond.fieldLink RX8 19 "RainShelvesModel" "s" "[I", Cond.methodLink RX8 130 yX8_remembers, Cond.instanceMethod yX8_remembers, Cond.selects RX8 yX8_remembers yX8_remembers, Cond.code yX8_remembers cX8_remembers 2 none, Cond.fieldLink RX8 38 "RainShelvesModel" "held" "[I", Cond.methodLink RX8 123 yX8_goes, Cond.instanceMethod yX8_goes, Cond.selects RX8 yX8_goes yX8_goes, Cond.code yX8_goes cX8_goes 6 (some .int), Cond.methodLink RX8 117 yX8_takes, Cond.instanceMethod yX8_takes, Cond.selects RX8 yX8_takes yX8_takes, Cond.code yX8_takes cX8_takes 4 (some .int), Cond.methodLink RX8 139 yX8_isSo]
def wsX8_theft_r2 : List Cond := [Cond.instanceMethod yX8_isSo, Cond.selects RX8 yX8_isSo yX8_isSo, Cond.code yX8_isSo cX8_isSo 5 (some .boolean), Cond.fieldLink RX8 95 "RainShelvesModel" "many" "I", Cond.fieldLink RX8 32 "RainShelvesModel" "notes" "[I", Cond.fieldLink RX8 35 "RainShelvesModel" "noted" "[I", Cond.methodLink RX8 133 yX8_lets, Cond.instanceMethod yX8_lets, Cond.selects RX8 yX8_lets yX8_lets, Cond.code yX8_lets cX8_lets 2 none]
def wsX8_theft : List Cond := .code yX8_theft cX8_theft 9 (some .int) :: ((wsX8_theft_r1 ++ wsX8_theft_r2) ++ wsX80)
def wsX8_isHail : List Cond := .code yX8_isHail cX8_isHail 2 (some .boolean) :: ([.fieldLink RX8 13 "RainShelvesModel" "told" "[I"] ++ wsX80)
def wsX8_stand : List Cond := .code yX8_stand cX8_stand 5 (some .boolean) :: ([.fieldLink RX8 13 "RainShelvesModel" "told" "[I", .methodLink RX8 98 yX8_full, .instanceMethod yX8_full, .selects RX8 yX8_full yX8_full, .initialized RX8, .code yX8_full cX8_full 4 (some .int), .fieldLink RX8 19 "RainShelvesModel" "s" "[I", .methodLink RX8 142 yX8_isHail, .instanceMethod yX8_isHail, .selects RX8 yX8_isHail yX8_isHail, .code yX8_isHail cX8_isHail 2 (some .boolean)] ++ wsX80)
def wsX8_shelves : List Cond := .code yX8_shelves cX8_shelves 5 (some .int) :: ([.fieldLink RX8 13 "RainShelvesModel" "told" "[I", .fieldLink RX8 41 "RainShelvesModel" "few" "[I", .methodLink RX8 98 yX8_full, .instanceMethod yX8_full, .selects RX8 yX8_full yX8_full, .initialized RX8, .code yX8_full cX8_full 4 (some .int), .fieldLink RX8 19 "RainShelvesModel" "s" "[I", .methodLink RX8 145 yX8_stand, .instanceMethod yX8_stand, .selects RX8 yX8_stand yX8_stand, .code yX8_stand cX8_stand 5 (some .boolean), .methodLink RX8 142 yX8_isHail, .instanceMethod yX8_isHail, .selects RX8 yX8_isHail yX8_isHail, .code yX8_isHail cX8_isHail 2 (some .boolean)] ++ wsX80)
def wsX8_beside_r1 : List Cond := [Cond.fieldLink RX8 13 "RainShelvesModel" "told" "[I", Cond.methodLink RX8 104 yX8_isPan, Cond.instanceMethod yX8_isPan, Cond.selects RX8 yX8_isPan yX8_isPan, Cond.initialized RX8, Cond.code yX8_isPan cX8_isPan 2 (some .boolean), Cond.methodLink RX8 51 yX8_in, Cond.static yX8_in, Cond.code yX8_in cX8_in 3 (some .boolean), Cond.methodLink RX8 145 yX8_stand, Cond.instanceMethod yX8_stand, Cond.selects RX8 yX8_stand yX8_stand, Cond.code yX8_stand cX8_stand 5 (some .boolean), Cond.methodLink RX8 98 yX8_full, Cond.instanceMethod yX8_full, Cond.selects RX8 yX8_full yX8_full, Cond.code yX8_full cX8_full 4 (some .int), Cond.fieldLink RX8 19 "RainShelvesModel" "s" "[I", Cond.methodLink RX8 142 yX8_isHail, Cond.instanceMethod yX8_isHail, Cond.selects RX8 yX8_isHail yX8_isHail, Cond.code yX8_isHail cX8_isHail 2 (some .boolean), Cond.methodLink RX8 136 yX8_ones, Cond.static yX8_ones]
def wsX8_beside_r2 : List Cond := [Cond.code yX8_ones cX8_ones 3 (some .int)]
def wsX8_beside : List Cond := .code yX8_beside cX8_beside 6 (some .int) :: ((wsX8_beside_r1 ++ wsX8_beside_r2) ++ wsX80)
def wsX8_odds : List Cond := .code yX8_odds cX8_odds 10 (some .int) :: ([.methodLink RX8 51 yX8_in, .static yX8_in, .initialized RX8, .code yX8_in cX8_in 3 (some .boolean), .methodLink RX8 111 yX8_allRead, .instanceMethod yX8_allRead, .selects RX8 yX8_allRead yX8_allRead, .code yX8_allRead cX8_allRead 3 (some .int), .fieldLink RX8 13 "RainShelvesModel" "told" "[I", .methodLink RX8 101 yX8_isRead, .instanceMethod yX8_isRead, .selects RX8 yX8_isRead yX8_isRead, .code yX8_isRead cX8_isRead 2 (some .boolean), .fieldLink RX8 19 "RainShelvesModel" "s" "[I", .methodLink RX8 98 yX8_full, .instanceMethod yX8_full, .selects RX8 yX8_full yX8_full, .code yX8_full cX8_full 4 (some .int), .methodLink RX8 136 yX8_ones, .static yX8_ones, .code yX8_ones cX8_ones 3 (some .int)] ++ wsX80)
def wsX8_rate : List Cond := .code yX8_rate cX8_rate 6 (some .int) :: ([.constant RX8 148 (-1000000), .fieldLink RX8 149 "RainShelvesModel" "trace" "J", .constantLong RX8 153 (11), .constantLong RX8 155 (101), .constantLong RX8 157 (1011), .constantLong RX8 159 (10101), .constantLong RX8 161 (100001), .fieldLink RX8 13 "RainShelvesModel" "told" "[I", .fieldLink RX8 19 "RainShelvesModel" "s" "[I", .methodLink RX8 51 yX8_in, .static yX8_in, .initialized RX8, .code yX8_in cX8_in 3 (some .boolean), .methodLink RX8 104 yX8_isPan, .instanceMethod yX8_isPan, .selects RX8 yX8_isPan yX8_isPan, .code yX8_isPan cX8_isPan 2 (some .boolean), .methodLink RX8 98 yX8_full, .instanceMethod yX8_full, .selects RX8 yX8_full yX8_full, .code yX8_full cX8_full 4 (some .int)] ++ wsX80)
def wsX8_keep : List Cond := .code yX8_keep cX8_keep 3 (some .int) :: ([.fieldLink RX8 25 "RainShelvesModel" "images" "[I", .fieldLink RX8 19 "RainShelvesModel" "s" "[I", .fieldLink RX8 28 "RainShelvesModel" "kept" "[Z", .methodLink RX8 51 yX8_in, .static yX8_in, .initialized RX8, .code yX8_in cX8_in 3 (some .boolean)] ++ wsX80)
def wsX8_back : List Cond := .code yX8_back cX8_back 3 (some .int) :: ([.fieldLink RX8 28 "RainShelvesModel" "kept" "[Z", .fieldLink RX8 19 "RainShelvesModel" "s" "[I", .fieldLink RX8 25 "RainShelvesModel" "images" "[I", .fieldLink RX8 92 "RainShelvesModel" "known" "I", .methodLink RX8 51 yX8_in, .static yX8_in, .initialized RX8, .code yX8_in cX8_in 3 (some .boolean)] ++ wsX80)
def wsX8_count : List Cond := .code yX8_count cX8_count 2 (some .int) :: ([.fieldLink RX8 13 "RainShelvesModel" "told" "[I", .fieldLink RX8 95 "RainShelvesModel" "many" "I", .fieldLink RX8 55 "RainShelvesModel" "typed" "I"] ++ wsX80)
def wsX8_trace : List Cond := .code yX8_trace cX8_trace 1 (some .long) :: ([.fieldLink RX8 149 "RainShelvesModel" "trace" "J"] ++ wsX80)
def wsJ9_max_7cf53 : List Cond := .code yJ9_max_7cf53 cJ9_max_7cf53 2 (some .int) :: ([])
def wsJ9_min_7cf53 : List Cond := .code yJ9_min_7cf53 cJ9_min_7cf53 2 (some .int) :: ([])
abbrev vwCl : List vw_C := [(RX0, TX0, 3), (RX1, TX1, 3), (RX2, TX2, 8), (RX3, TX3, 4), (RX4, TX4, 4), (RX5, TX5, 6), (RX6, TX6, 9), (RX7, TX7, 10), (RX8, TX8, 19)]
end
section
set_option maxRecDepth 20000 in
theorem ggX0_reckon_X0_addPan : GoodIn wsX0_reckon wsX0_addPan := goodIn_r _ [12, 2, 17, 18, 19] rfl (by decide +kernel)
set_option maxRecDepth 20000 in
theorem gX0_reckon_X0_addPan : GoodIn wsX0_reckon (wsV RX0 19 RX0 yX0_addPan wsX0_addPan) := goodIn_app (goodIn_r _ [8, 9, 10, 11] rfl (by decide +kernel)) ggX0_reckon_X0_addPan
set_option maxRecDepth 20000 in
theorem ggX0_reckon_X0_reduce : GoodIn wsX0_reckon wsX0_reduce := goodIn_r _ [16, 3, 1, 17, 18, 19] rfl (by decide +kernel)
set_option maxRecDepth 20000 in
theorem gX0_reckon_X0_reduce : GoodIn wsX0_reckon (wsV RX0 32 RX0 yX0_reduce wsX0_reduce) := goodIn_app (goodIn_r _ [13, 14, 15, 11] rfl (by decide +kernel)) ggX0_reckon_X0_reduce
set_option maxRecDepth 20000 in
theorem ggX1_init_X4_init : GoodIn wsX1_init wsX4_init := goodIn_r _ [9, 10, 2, 3, 11, 12, 13, 17, 18, 19, 20] rfl (by decide +kernel)
theorem gX1_init_X4_init_n17 : GoodIn wsX1_init (wsX4_init) := ggX1_init_X4_init
set_option maxRecDepth 20000 in
theorem ggX1_remember_X4_become : GoodIn wsX1_remember wsX4_become := goodIn_r _ [11, 12, 13, 14, 18, 19, 20, 21] rfl (by decide +kernel)
theorem gX1_remember_X4_become_n24 : GoodIn wsX1_remember (wsX4_become) := ggX1_remember_X4_become
set_option maxRecDepth 20000 in
theorem ggX1_restore_X4_become : GoodIn wsX1_restore wsX4_become := goodIn_r _ [7, 8, 9, 10, 14, 15, 16, 17] rfl (by decide +kernel)
theorem gX1_restore_X4_become_n24 : GoodIn wsX1_restore (wsX4_become) := ggX1_restore_X4_become
set_option maxRecDepth 20000 in
theorem ggX2_init_X2_empty : GoodIn wsX2_init wsX2_empty := goodIn_r _ [14, 15, 16, 17, 18, 19, 20, 21, 22, 23, 24, 25] rfl (by decide +kernel)
set_option maxRecDepth 20000 in
theorem gX2_init_X2_empty : GoodIn wsX2_init (wsV RX2 27 RX2 yX2_empty wsX2_empty) := goodIn_app (goodIn_r _ [10, 11, 12, 13] rfl (by decide +kernel)) ggX2_init_X2_empty
set_option maxRecDepth 20000 in
theorem ggX4_fill_X4_at : GoodIn wsX4_fill wsX4_at := goodIn_r _ [8] rfl (by decide +kernel)
set_option maxRecDepth 20000 in
theorem gX4_fill_X4_at : GoodIn wsX4_fill (va_wsS RX4 31 yX4_at wsX4_at) := goodIn_app (goodIn_r _ [5, 6, 7] rfl (by decide +kernel)) ggX4_fill_X4_at
set_option maxRecDepth 20000 in
theorem ggX4_amount_X4_at : GoodIn wsX4_amount wsX4_at := goodIn_r _ [5] rfl (by decide +kernel)
set_option maxRecDepth 20000 in
theorem gX4_amount_X4_at : GoodIn wsX4_amount (va_wsS RX4 31 yX4_at wsX4_at) := goodIn_app (goodIn_r _ [2, 3, 4] rfl (by decide +kernel)) ggX4_amount_X4_at
set_option maxRecDepth 20000 in
theorem ggX4_inPan_X4_amount : GoodIn wsX4_inPan wsX4_amount := goodIn_r _ [6, 7, 8, 9, 5, 10, 11, 12, 13, 14] rfl (by decide +kernel)
set_option maxRecDepth 20000 in
theorem gX4_inPan_X4_amount : GoodIn wsX4_inPan (wsV RX4 36 RX4 yX4_amount wsX4_amount) := goodIn_app (goodIn_r _ [2, 3, 4, 5] rfl (by decide +kernel)) ggX4_inPan_X4_amount
set_option maxRecDepth 20000 in
theorem ggX4_inAll_X4_inPan : GoodIn wsX4_inAll wsX4_inPan := goodIn_r _ [6, 1, 7, 8, 9, 5, 10, 11, 12, 13, 14, 15, 16, 17, 18, 19, 20, 21, 22, 23, 24, 25, 26] rfl (by decide +kernel)
set_option maxRecDepth 20000 in
theorem gX4_inAll_X4_inPan : GoodIn wsX4_inAll (wsV RX4 39 RX4 yX4_inPan wsX4_inPan) := goodIn_app (goodIn_r _ [2, 3, 4, 5] rfl (by decide +kernel)) ggX4_inAll_X4_inPan
set_option maxRecDepth 20000 in
theorem ggX4_tasteOf_X4_amount : GoodIn wsX4_tasteOf wsX4_amount := goodIn_r _ [6, 7, 8, 9, 5, 10, 11, 12, 13, 14] rfl (by decide +kernel)
set_option maxRecDepth 20000 in
theorem gX4_tasteOf_X4_amount : GoodIn wsX4_tasteOf (wsV RX4 36 RX4 yX4_amount wsX4_amount) := goodIn_app (goodIn_r _ [2, 3, 4, 5] rfl (by decide +kernel)) ggX4_tasteOf_X4_amount
set_option maxRecDepth 20000 in
theorem ggX4_whereIs_X4_amount : GoodIn wsX4_whereIs wsX4_amount := goodIn_r _ [6, 7, 8, 9, 5, 10, 11, 12, 13, 14] rfl (by decide +kernel)
set_option maxRecDepth 20000 in
theorem gX4_whereIs_X4_amount : GoodIn wsX4_whereIs (wsV RX4 36 RX4 yX4_amount wsX4_amount) := goodIn_app (goodIn_r _ [2, 3, 4, 5] rfl (by decide +kernel)) ggX4_whereIs_X4_amount
set_option maxRecDepth 20000 in
theorem ggX4_wettest_X4_ofYear : GoodIn wsX4_wettest wsX4_ofYear := goodIn_r _ [6, 1, 7, 8, 9, 5, 10, 11, 12, 13, 14, 15, 16, 17, 18, 19, 20, 21, 22, 23, 24, 25, 26] rfl (by decide +kernel)
set_option maxRecDepth 20000 in
theorem gX4_wettest_X4_ofYear : GoodIn wsX4_wettest (wsV RX4 49 RX4 yX4_ofYear wsX4_ofYear) := goodIn_app (goodIn_r _ [2, 3, 4, 5] rfl (by decide +kernel)) ggX4_wettest_X4_ofYear
set_option maxRecDepth 20000 in
theorem ggX4_ofYear_X4_amount : GoodIn wsX4_ofYear wsX4_amount := goodIn_r _ [6, 7, 8, 9, 5, 10, 11, 12, 13, 14] rfl (by decide +kernel)
set_option maxRecDepth 20000 in
theorem gX4_ofYear_X4_amount : GoodIn wsX4_ofYear (wsV RX4 36 RX4 yX4_amount wsX4_amount) := goodIn_app (goodIn_r _ [2, 3, 4, 5] rfl (by decide +kernel)) ggX4_ofYear_X4_amount
set_option maxRecDepth 20000 in
theorem ggX4_take_X4_amount : GoodIn wsX4_take wsX4_amount := goodIn_r _ [12, 6, 13, 14, 11, 15, 16, 17, 18, 19] rfl (by decide +kernel)
set_option maxRecDepth 20000 in
theorem gX4_take_X4_amount : GoodIn wsX4_take (wsV RX4 36 RX4 yX4_amount wsX4_amount) := goodIn_app (goodIn_r _ [8, 9, 10, 11] rfl (by decide +kernel)) ggX4_take_X4_amount
set_option maxRecDepth 20000 in
theorem ggX4_take_X4_at : GoodIn wsX4_take wsX4_at := goodIn_r _ [15] rfl (by decide +kernel)
set_option maxRecDepth 20000 in
theorem gX4_take_X4_at : GoodIn wsX4_take (va_wsS RX4 31 yX4_at wsX4_at) := goodIn_app (goodIn_r _ [13, 14, 11] rfl (by decide +kernel)) ggX4_take_X4_at
set_option maxRecDepth 20000 in
theorem ggX4_passSpring_X4_take : GoodIn wsX4_passSpring wsX4_take := goodIn_r _ [7, 1, 8, 9, 10, 11, 12, 13, 14, 15, 16, 6, 17, 18, 19, 20, 21, 22, 23, 24, 25, 26, 27, 28, 29, 30, 31, 32] rfl (by decide +kernel)
set_option maxRecDepth 20000 in
theorem gX4_passSpring_X4_take : GoodIn wsX4_passSpring (wsV RX4 60 RX4 yX4_take wsX4_take) := goodIn_app (goodIn_r _ [3, 4, 5, 6] rfl (by decide +kernel)) ggX4_passSpring_X4_take
set_option maxRecDepth 20000 in
theorem ggX4_canBeRead_X4_canBeReadIn : GoodIn wsX4_canBeRead wsX4_canBeReadIn := goodIn_r _ [5, 6, 7, 8, 9, 10, 11, 12, 13, 4, 14, 15, 16, 17, 18, 19, 20, 21, 22, 23, 24, 25, 26, 27, 28, 29, 30] rfl (by decide +kernel)
set_option maxRecDepth 20000 in
theorem gX4_canBeRead_X4_canBeReadIn : GoodIn wsX4_canBeRead (wsV RX4 64 RX4 yX4_canBeReadIn wsX4_canBeReadIn) := goodIn_app (goodIn_r _ [1, 2, 3, 4] rfl (by decide +kernel)) ggX4_canBeRead_X4_canBeReadIn
set_option maxRecDepth 20000 in
theorem ggX4_canBeReadIn_X4_amount : GoodIn wsX4_canBeReadIn wsX4_amount := goodIn_r _ [10, 11, 12, 13, 9, 14, 15, 16, 17, 18] rfl (by decide +kernel)
set_option maxRecDepth 20000 in
theorem gX4_canBeReadIn_X4_amount : GoodIn wsX4_canBeReadIn (wsV RX4 36 RX4 yX4_amount wsX4_amount) := goodIn_app (goodIn_r _ [6, 7, 8, 9] rfl (by decide +kernel)) ggX4_canBeReadIn_X4_amount
set_option maxRecDepth 20000 in
theorem ggX4_readable_X4_canBeRead : GoodIn wsX4_readable wsX4_canBeRead := goodIn_r _ [6, 7, 8, 9, 5, 10, 1, 11, 12, 13, 14, 15, 16, 17, 18, 19, 20, 21, 22, 23, 24, 25, 26, 27, 28, 29, 30, 31, 32, 33, 34] rfl (by decide +kernel)
set_option maxRecDepth 20000 in
theorem gX4_readable_X4_canBeRead : GoodIn wsX4_readable (wsV RX4 71 RX4 yX4_canBeRead wsX4_canBeRead) := goodIn_app (goodIn_r _ [2, 3, 4, 5] rfl (by decide +kernel)) ggX4_readable_X4_canBeRead
set_option maxRecDepth 20000 in
theorem ggX5_weigh_X2_hailPans : GoodIn wsX5_weigh wsX2_hailPans := goodIn_r _ [9, 10, 11, 31, 32, 33, 34, 35, 36, 37, 38] rfl (by decide +kernel)
theorem gX5_weigh_X2_hailPans_n28 : GoodIn wsX5_weigh (wsX2_hailPans) := ggX5_weigh_X2_hailPans
set_option maxRecDepth 20000 in
theorem ggX5_weigh_X4_inPan : GoodIn wsX5_weigh wsX4_inPan := goodIn_r _ [15, 16, 17, 18, 19, 13, 20, 21, 22, 23, 24, 39, 40, 41, 42, 31, 32, 33, 34, 35, 36, 37, 38] rfl (by decide +kernel)
theorem gX5_weigh_X4_inPan_n41 : GoodIn wsX5_weigh (wsX4_inPan) := ggX5_weigh_X4_inPan
set_option maxRecDepth 20000 in
theorem ggX5_countLeft_J6_bitCount_0f7a4 : GoodIn wsX5_countLeft wsJ6_bitCount_0f7a4 := goodIn_r _ [4, 5, 6, 7] rfl (by decide +kernel)
set_option maxRecDepth 20000 in
theorem gX5_countLeft_J6_bitCount_0f7a4 : GoodIn wsX5_countLeft (va_wsS RX5 47 yJ6_bitCount_0f7a4 wsJ6_bitCount_0f7a4) := goodIn_app (goodIn_r _ [1, 2, 3] rfl (by decide +kernel)) ggX5_countLeft_J6_bitCount_0f7a4
set_option maxRecDepth 20000 in
theorem ggX5_bestFire_X5_isBetterFire : GoodIn wsX5_bestFire wsX5_isBetterFire := goodIn_r _ [7, 2, 8, 9, 6, 10, 11, 12, 13, 14, 15, 16, 17, 18, 19, 20, 21, 22, 23] rfl (by decide +kernel)
set_option maxRecDepth 20000 in
theorem gX5_bestFire_X5_isBetterFire : GoodIn wsX5_bestFire (wsV RX5 52 RX5 yX5_isBetterFire wsX5_isBetterFire) := goodIn_app (goodIn_r _ [3, 4, 5, 6] rfl (by decide +kernel)) ggX5_bestFire_X5_isBetterFire
set_option maxRecDepth 20000 in
theorem ggX5_isBetterFire_X5_countLeft : GoodIn wsX5_isBetterFire wsX5_countLeft := goodIn_r _ [5, 6, 7, 8, 9, 10, 11, 12] rfl (by decide +kernel)
set_option maxRecDepth 20000 in
theorem gX5_isBetterFire_X5_countLeft : GoodIn wsX5_isBetterFire (va_wsS RX5 56 yX5_countLeft wsX5_countLeft) := goodIn_app (goodIn_r _ [2, 3, 4] rfl (by decide +kernel)) ggX5_isBetterFire_X5_countLeft
set_option maxRecDepth 20000 in
theorem ggX5_fewestShelves_X5_isFilled : GoodIn wsX5_fewestShelves wsX5_isFilled := goodIn_r _ [10, 5, 24, 25, 26, 27, 28, 29] rfl (by decide +kernel)
set_option maxRecDepth 20000 in
theorem gX5_fewestShelves_X5_isFilled : GoodIn wsX5_fewestShelves (wsV RX5 60 RX5 yX5_isFilled wsX5_isFilled) := goodIn_app (goodIn_r _ [6, 7, 8, 9] rfl (by decide +kernel)) ggX5_fewestShelves_X5_isFilled
set_option maxRecDepth 20000 in
theorem ggX5_fewestShelves_X5_fewestFor : GoodIn wsX5_fewestShelves wsX5_fewestFor := goodIn_r _ [14, 4, 15, 16, 17, 18, 19, 20, 21, 9, 22, 23, 2, 3, 24, 25, 26, 27, 28, 29] rfl (by decide +kernel)
set_option maxRecDepth 20000 in
theorem gX5_fewestShelves_X5_fewestFor : GoodIn wsX5_fewestShelves (wsV RX5 64 RX5 yX5_fewestFor wsX5_fewestFor) := goodIn_app (goodIn_r _ [11, 12, 13, 9] rfl (by decide +kernel)) ggX5_fewestShelves_X5_fewestFor
set_option maxRecDepth 20000 in
theorem ggX5_fewestFor_X5_fitsOneShelf : GoodIn wsX5_fewestFor wsX5_fitsOneShelf := goodIn_r _ [10, 11, 12, 13, 14, 15, 16, 17, 18, 19] rfl (by decide +kernel)
set_option maxRecDepth 20000 in
theorem gX5_fewestFor_X5_fitsOneShelf : GoodIn wsX5_fewestFor (wsV RX5 67 RX5 yX5_fitsOneShelf wsX5_fitsOneShelf) := goodIn_app (goodIn_r _ [6, 7, 8, 9] rfl (by decide +kernel)) ggX5_fewestFor_X5_fitsOneShelf
set_option maxRecDepth 20000 in
theorem ggX5_mostBeside_X5_isFilled : GoodIn wsX5_mostBeside wsX5_isFilled := goodIn_r _ [10, 11, 26, 27, 28, 29, 30, 31] rfl (by decide +kernel)
set_option maxRecDepth 20000 in
theorem gX5_mostBeside_X5_isFilled : GoodIn wsX5_mostBeside (wsV RX5 60 RX5 yX5_isFilled wsX5_isFilled) := goodIn_app (goodIn_r _ [6, 7, 8, 9] rfl (by decide +kernel)) ggX5_mostBeside_X5_isFilled
set_option maxRecDepth 20000 in
theorem ggX5_mostBeside_X5_fitsOneShelf : GoodIn wsX5_mostBeside wsX5_fitsOneShelf := goodIn_r _ [15, 16, 17, 18, 26, 27, 28, 29, 30, 31] rfl (by decide +kernel)
set_option maxRecDepth 20000 in
theorem gX5_mostBeside_X5_fitsOneShelf : GoodIn wsX5_mostBeside (wsV RX5 67 RX5 yX5_fitsOneShelf wsX5_fitsOneShelf) := goodIn_app (goodIn_r _ [12, 13, 14, 9] rfl (by decide +kernel)) ggX5_mostBeside_X5_fitsOneShelf
set_option maxRecDepth 20000 in
theorem ggX5_mostBeside_J6_bitCount_0f7a4 : GoodIn wsX5_mostBeside wsJ6_bitCount_0f7a4 := goodIn_r _ [22, 23, 24, 25] rfl (by decide +kernel)
set_option maxRecDepth 20000 in
theorem gX5_mostBeside_J6_bitCount_0f7a4 : GoodIn wsX5_mostBeside (va_wsS RX5 47 yJ6_bitCount_0f7a4 wsJ6_bitCount_0f7a4) := goodIn_app (goodIn_r _ [19, 20, 21] rfl (by decide +kernel)) ggX5_mostBeside_J6_bitCount_0f7a4
set_option maxRecDepth 20000 in
theorem ggX6_init_X2_init : GoodIn wsX6_init wsX2_init := goodIn_r _ [11, 12, 2, 3, 4, 13, 14, 15, 16, 17, 18, 19, 20, 8, 21, 22, 23, 24, 34, 35, 36, 37, 38, 39, 40, 41] rfl (by decide +kernel)
theorem gX6_init_X2_init_n17 : GoodIn wsX6_init (wsX2_init) := ggX6_init_X2_init
set_option maxRecDepth 20000 in
theorem ggX6_read_X2_empty : GoodIn wsX6_read wsX2_empty := goodIn_r _ [10, 11, 12, 13, 70, 71, 72, 73, 74, 75, 76, 77] rfl (by decide +kernel)
theorem gX6_read_X2_empty_n26 : GoodIn wsX6_read (wsX2_empty) := ggX6_read_X2_empty
set_option maxRecDepth 20000 in
theorem ggX6_read_X6_step : GoodIn wsX6_read wsX6_step := goodIn_r _ [18, 4, 19, 20, 6, 5, 21, 22, 23, 17, 24, 25, 26, 27, 28, 29, 30, 31, 32, 61, 62, 63, 64, 65, 66, 67, 68, 69] rfl (by decide +kernel)
set_option maxRecDepth 20000 in
theorem gX6_read_X6_step : GoodIn wsX6_read (wsV RX6 39 RX6 yX6_step wsX6_step) := goodIn_app (goodIn_r _ [14, 15, 16, 17] rfl (by decide +kernel)) ggX6_read_X6_step
set_option maxRecDepth 20000 in
theorem ggX6_read_X6_readItem : GoodIn wsX6_read wsX6_readItem := goodIn_r _ [36, 5, 37, 38, 39, 17, 40, 1, 21, 41, 42, 43, 44, 14, 15, 16, 18, 4, 19, 20, 6, 22, 23, 24, 25, 26, 27, 28, 29, 30, 31, 32, 45, 8, 46, 47, 11, 48, 49, 50, 51, 52, 53, 54, 55, 56, 2, 57, 58, 59, 60, 3, 61, 62, 63, 64, 65, 66, 67, 68, 69, 70, 71, 72, 73, 74, 75, 76, 77] rfl (by decide +kernel)
set_option maxRecDepth 20000 in
theorem gX6_read_X6_readItem : GoodIn wsX6_read (wsV RX6 45 RX6 yX6_readItem wsX6_readItem) := goodIn_app (goodIn_r _ [33, 34, 35, 17] rfl (by decide +kernel)) ggX6_read_X6_readItem
set_option maxRecDepth 20000 in
theorem ggX6_readItem_X6_readPan : GoodIn wsX6_readItem wsX6_readPan := goodIn_r _ [6, 7, 8, 9, 10, 11, 5, 12, 1, 13, 14, 15, 16, 17, 18, 19, 20, 21, 22, 23, 24, 25, 26, 27, 28, 29, 30, 31, 32, 33, 34, 35, 36, 37, 38, 39, 40, 41, 52, 53, 54, 55, 56, 57, 58, 59, 60, 61, 62, 63, 64, 65, 66, 67, 68] rfl (by decide +kernel)
set_option maxRecDepth 20000 in
theorem gX6_readItem_X6_readPan : GoodIn wsX6_readItem (wsV RX6 52 RX6 yX6_readPan wsX6_readPan) := goodIn_app (goodIn_r _ [2, 3, 4, 5] rfl (by decide +kernel)) ggX6_readItem_X6_readPan
set_option maxRecDepth 20000 in
theorem ggX6_readItem_X6_readLeast : GoodIn wsX6_readItem wsX6_readLeast := goodIn_r _ [45, 46, 7, 8, 9, 10, 11, 5, 12, 1, 13, 14, 15, 16, 17, 18, 19, 20, 21, 22, 23, 24, 25, 26, 27, 28, 29, 30, 31, 52, 53, 54, 55, 56, 57, 58, 59, 60, 61, 62, 63, 64, 65, 66, 67, 68] rfl (by decide +kernel)
set_option maxRecDepth 20000 in
theorem gX6_readItem_X6_readLeast : GoodIn wsX6_readItem (wsV RX6 55 RX6 yX6_readLeast wsX6_readLeast) := goodIn_app (goodIn_r _ [42, 43, 44, 5] rfl (by decide +kernel)) ggX6_readItem_X6_readLeast
set_option maxRecDepth 20000 in
theorem ggX6_readItem_X6_readShelf : GoodIn wsX6_readItem wsX6_readShelf := goodIn_r _ [50, 51, 7, 8, 9, 10, 11, 5, 12, 1, 13, 14, 15, 16, 17, 18, 19, 20, 21, 22, 23, 24, 25, 26, 27, 28, 29, 30, 31, 52, 53, 54, 55, 56, 57, 58, 59, 60, 61, 62, 63, 64, 65, 66, 67, 68] rfl (by decide +kernel)
set_option maxRecDepth 20000 in
theorem gX6_readItem_X6_readShelf : GoodIn wsX6_readItem (wsV RX6 58 RX6 yX6_readShelf wsX6_readShelf) := goodIn_app (goodIn_r _ [47, 48, 49, 5] rfl (by decide +kernel)) ggX6_readItem_X6_readShelf
set_option maxRecDepth 20000 in
theorem ggX6_readItem_X6_step : GoodIn wsX6_readItem wsX6_step := goodIn_r _ [16, 17, 18, 19, 20, 1, 8, 21, 22, 5, 23, 24, 25, 26, 27, 28, 29, 30, 31, 52, 53, 54, 55, 56, 57, 58, 59, 60] rfl (by decide +kernel)
set_option maxRecDepth 20000 in
theorem gX6_readItem_X6_step : GoodIn wsX6_readItem (wsV RX6 39 RX6 yX6_step wsX6_step) := goodIn_app (goodIn_r _ [13, 14, 15, 5] rfl (by decide +kernel)) ggX6_readItem_X6_step
set_option maxRecDepth 20000 in
theorem ggX6_readPan_X6_readNumber : GoodIn wsX6_readPan wsX6_readNumber := goodIn_r _ [7, 8, 2, 9, 10, 11, 6, 12, 13, 14, 15, 16, 17, 18, 19, 20, 21, 22, 23, 24, 25, 26, 27, 38, 39, 40, 41, 42, 43, 44, 45, 46] rfl (by decide +kernel)
set_option maxRecDepth 20000 in
theorem gX6_readPan_X6_readNumber : GoodIn wsX6_readPan (wsV RX6 64 RX6 yX6_readNumber wsX6_readNumber) := goodIn_app (goodIn_r _ [3, 4, 5, 6] rfl (by decide +kernel)) ggX6_readPan_X6_readNumber
set_option maxRecDepth 20000 in
theorem ggX6_readPan_X2_append : GoodIn wsX6_readPan wsX2_append := goodIn_r _ [31, 32, 33, 34, 35, 36, 37, 47, 48, 49, 50, 51, 52, 53, 54] rfl (by decide +kernel)
theorem gX6_readPan_X2_append_n71 : GoodIn wsX6_readPan (wsX2_append) := ggX6_readPan_X2_append
set_option maxRecDepth 20000 in
theorem ggX6_readLeast_X6_readNumber : GoodIn wsX6_readLeast wsX6_readNumber := goodIn_r _ [8, 9, 3, 10, 11, 12, 7, 13, 14, 15, 16, 17, 18, 19, 20, 21, 22, 23, 24, 25, 26, 27, 28, 29, 30, 31, 32, 33, 34, 35, 36, 37] rfl (by decide +kernel)
set_option maxRecDepth 20000 in
theorem gX6_readLeast_X6_readNumber : GoodIn wsX6_readLeast (wsV RX6 64 RX6 yX6_readNumber wsX6_readNumber) := goodIn_app (goodIn_r _ [4, 5, 6, 7] rfl (by decide +kernel)) ggX6_readLeast_X6_readNumber
set_option maxRecDepth 20000 in
theorem ggX6_readShelf_X6_readNumber : GoodIn wsX6_readShelf wsX6_readNumber := goodIn_r _ [8, 9, 3, 10, 11, 12, 7, 13, 14, 15, 16, 17, 18, 19, 20, 21, 22, 23, 24, 25, 26, 27, 28, 29, 30, 31, 32, 33, 34, 35, 36, 37] rfl (by decide +kernel)
set_option maxRecDepth 20000 in
theorem gX6_readShelf_X6_readNumber : GoodIn wsX6_readShelf (wsV RX6 64 RX6 yX6_readNumber wsX6_readNumber) := goodIn_app (goodIn_r _ [4, 5, 6, 7] rfl (by decide +kernel)) ggX6_readShelf_X6_readNumber
set_option maxRecDepth 20000 in
theorem ggX6_readNumber_X6_step : GoodIn wsX6_readNumber wsX6_step := goodIn_r _ [7, 8, 9, 10, 11, 1, 2, 12, 13, 6, 14, 15, 16, 17, 18, 19, 20, 21, 22, 23, 24, 25, 26, 27, 28, 29, 30, 31] rfl (by decide +kernel)
set_option maxRecDepth 20000 in
theorem gX6_readNumber_X6_step : GoodIn wsX6_readNumber (wsV RX6 39 RX6 yX6_step wsX6_step) := goodIn_app (goodIn_r _ [3, 4, 5, 6] rfl (by decide +kernel)) ggX6_readNumber_X6_step
set_option maxRecDepth 20000 in
theorem ggX6_step_X6_isDigit : GoodIn wsX6_step wsX6_isDigit := goodIn_r _ [10] rfl (by decide +kernel)
set_option maxRecDepth 20000 in
theorem gX6_step_X6_isDigit : GoodIn wsX6_step (va_wsS RX6 81 yX6_isDigit wsX6_isDigit) := goodIn_app (goodIn_r _ [7, 8, 9] rfl (by decide +kernel)) ggX6_step_X6_isDigit
set_option maxRecDepth 20000 in
theorem ggX6_step_X6_digits : GoodIn wsX6_step wsX6_digits := goodIn_r _ [14, 1, 2, 3, 4, 15, 16, 17, 18, 7, 8, 9, 10, 19, 20, 21, 22, 23, 24, 25, 26, 27] rfl (by decide +kernel)
set_option maxRecDepth 20000 in
theorem gX6_step_X6_digits : GoodIn wsX6_step (wsV RX6 85 RX6 yX6_digits wsX6_digits) := goodIn_app (goodIn_r _ [11, 12, 13, 9] rfl (by decide +kernel)) ggX6_step_X6_digits
set_option maxRecDepth 20000 in
theorem ggX6_digits_X6_isDigit : GoodIn wsX6_digits wsX6_isDigit := goodIn_r _ [12] rfl (by decide +kernel)
set_option maxRecDepth 20000 in
theorem gX6_digits_X6_isDigit : GoodIn wsX6_digits (va_wsS RX6 81 yX6_isDigit wsX6_isDigit) := goodIn_app (goodIn_r _ [9, 10, 11] rfl (by decide +kernel)) ggX6_digits_X6_isDigit
set_option maxRecDepth 20000 in
theorem ggX7_init_X2_init : GoodIn wsX7_init wsX2_init := goodIn_r _ [37, 38, 2, 3, 39, 40, 41, 42, 43, 44, 45, 46, 47, 6, 48, 49, 50, 51, 83, 84, 85, 86, 87, 88, 89, 90] rfl (by decide +kernel)
theorem gX7_init_X2_init_n9 : GoodIn wsX7_init (wsX2_init) := ggX7_init_X2_init
set_option maxRecDepth 20000 in
theorem ggX7_init_X6_init : GoodIn wsX7_init wsX6_init := goodIn_r _ [53, 54, 2, 3, 39, 55, 56, 5, 6, 57, 36, 37, 38, 40, 41, 42, 43, 44, 45, 46, 47, 48, 49, 50, 51, 101, 102, 103, 104, 105, 106, 107, 108, 109, 83, 84, 85, 86, 87, 88, 89, 90] rfl (by decide +kernel)
theorem gX7_init_X6_init_n18 : GoodIn wsX7_init (wsX6_init) := ggX7_init_X6_init
set_option maxRecDepth 20000 in
theorem ggX7_init_X4_init : GoodIn wsX7_init wsX4_init := goodIn_r _ [59, 60, 2, 3, 39, 61, 62, 110, 111, 112, 113] rfl (by decide +kernel)
theorem gX7_init_X4_init_n25 : GoodIn wsX7_init (wsX4_init) := ggX7_init_X4_init
set_option maxRecDepth 20000 in
theorem ggX7_init_X1_init : GoodIn wsX7_init wsX1_init := goodIn_r _ [64, 65, 2, 3, 66, 67, 13, 14, 58, 59, 60, 39, 61, 62, 114, 115, 116, 110, 111, 112, 113] rfl (by decide +kernel)
theorem gX7_init_X1_init_n34 : GoodIn wsX7_init (wsX1_init) := ggX7_init_X1_init
set_option maxRecDepth 20000 in
theorem ggX7_init_X3_init : GoodIn wsX7_init wsX3_init := goodIn_r _ [69, 70, 2, 3, 39, 71, 72, 73, 117, 118, 119, 120] rfl (by decide +kernel)
theorem gX7_init_X3_init_n49 : GoodIn wsX7_init (wsX3_init) := ggX7_init_X3_init
set_option maxRecDepth 20000 in
theorem ggX7_init_X5_init : GoodIn wsX7_init wsX5_init := goodIn_r _ [75, 76, 2, 3, 39, 77, 78, 121, 122, 123, 124, 125, 126] rfl (by decide +kernel)
theorem gX7_init_X5_init_n56 : GoodIn wsX7_init (wsX5_init) := ggX7_init_X5_init
set_option maxRecDepth 20000 in
theorem ggX7_init_X0_init : GoodIn wsX7_init wsX0_init := goodIn_r _ [80, 81, 2, 3, 39, 82, 127, 128, 129] rfl (by decide +kernel)
theorem gX7_init_X0_init_n63 : GoodIn wsX7_init (wsX0_init) := ggX7_init_X0_init
set_option maxRecDepth 20000 in
theorem ggX7_type_X7_isWithin : GoodIn wsX7_type wsX7_isWithin := goodIn_r _ [5] rfl (by decide +kernel)
set_option maxRecDepth 20000 in
theorem gX7_type_X7_isWithin : GoodIn wsX7_type (va_wsS RX7 72 yX7_isWithin wsX7_isWithin) := goodIn_app (goodIn_r _ [2, 3, 4] rfl (by decide +kernel)) ggX7_type_X7_isWithin
set_option maxRecDepth 20000 in
theorem ggX7_type_X6_append : GoodIn wsX7_type wsX6_append := goodIn_r _ [9, 10, 11, 22, 23, 24, 25, 26, 27, 28, 29, 30] rfl (by decide +kernel)
theorem gX7_type_X6_append_n76 : GoodIn wsX7_type (wsX6_append) := ggX7_type_X6_append
set_option maxRecDepth 20000 in
theorem ggX7_house_X6_read : GoodIn wsX7_house wsX6_read := goodIn_r _ [10, 11, 12, 13, 14, 15, 16, 17, 18, 19, 20, 21, 22, 23, 24, 25, 26, 8, 27, 28, 29, 30, 31, 32, 33, 34, 35, 36, 37, 38, 39, 40, 41, 42, 43, 44, 45, 46, 47, 48, 49, 50, 51, 52, 53, 54, 55, 56, 57, 58, 59, 60, 61, 62, 63, 64, 65, 66, 67, 68, 69, 94, 95, 96, 97, 98, 99, 100, 101, 102, 110, 111, 112, 113, 114, 115, 116, 117] rfl (by decide +kernel)
theorem gX7_house_X6_read_n84 : GoodIn wsX7_house (wsX6_read) := ggX7_house_X6_read
set_option maxRecDepth 20000 in
theorem ggX7_house_X2_become : GoodIn wsX7_house wsX2_become := goodIn_r _ [72, 21, 22, 23, 57, 58, 59, 60, 61, 110, 111, 112, 113, 114, 115, 116, 117] rfl (by decide +kernel)
theorem gX7_house_X2_become_n91 : GoodIn wsX7_house (wsX2_become) := ggX7_house_X2_become
set_option maxRecDepth 20000 in
theorem ggX7_house_X4_fill : GoodIn wsX7_house wsX4_fill := goodIn_r _ [76, 77, 78, 79, 80, 81, 82, 74, 83, 118, 119, 120, 121, 110, 111, 112, 113, 114, 115, 116, 117] rfl (by decide +kernel)
theorem gX7_house_X4_fill_n94 : GoodIn wsX7_house (wsX4_fill) := ggX7_house_X4_fill
set_option maxRecDepth 20000 in
theorem ggX7_pan_X2_has : GoodIn wsX7_pan wsX2_has := goodIn_r _ [6, 7, 48, 49, 50, 51, 52, 53, 54, 55] rfl (by decide +kernel)
theorem gX7_pan_X2_has_n103 : GoodIn wsX7_pan (wsX2_has) := ggX7_pan_X2_has
set_option maxRecDepth 20000 in
theorem ggX7_pan_X4_inPan : GoodIn wsX7_pan wsX4_inPan := goodIn_r _ [11, 12, 13, 14, 15, 9, 16, 17, 18, 19, 20, 56, 57, 58, 59, 48, 49, 50, 51, 52, 53, 54, 55] rfl (by decide +kernel)
theorem gX7_pan_X4_inPan_n116 : GoodIn wsX7_pan (wsX4_inPan) := ggX7_pan_X4_inPan
set_option maxRecDepth 20000 in
theorem ggX7_pan_X4_canBeRead : GoodIn wsX7_pan wsX4_canBeRead := goodIn_r _ [23, 24, 25, 26, 9, 27, 12, 28, 29, 30, 31, 13, 14, 15, 16, 17, 18, 19, 20, 56, 57, 58, 59, 48, 49, 50, 51, 52, 53, 54, 55] rfl (by decide +kernel)
theorem gX7_pan_X4_canBeRead_n120 : GoodIn wsX7_pan (wsX4_canBeRead) := ggX7_pan_X4_canBeRead
set_option maxRecDepth 20000 in
theorem ggX7_pan_X4_tasteOf : GoodIn wsX7_pan wsX4_tasteOf := goodIn_r _ [34, 12, 13, 14, 15, 9, 16, 17, 18, 19, 20, 56, 57, 58, 59, 48, 49, 50, 51, 52, 53, 54, 55] rfl (by decide +kernel)
theorem gX7_pan_X4_tasteOf_n123 : GoodIn wsX7_pan (wsX4_tasteOf) := ggX7_pan_X4_tasteOf
set_option maxRecDepth 20000 in
theorem ggX7_pan_X4_whereIs : GoodIn wsX7_pan wsX4_whereIs := goodIn_r _ [37, 12, 13, 14, 15, 9, 16, 17, 18, 19, 20, 56, 57, 58, 59, 48, 49, 50, 51, 52, 53, 54, 55] rfl (by decide +kernel)
theorem gX7_pan_X4_whereIs_n126 : GoodIn wsX7_pan (wsX4_whereIs) := ggX7_pan_X4_whereIs
set_option maxRecDepth 20000 in
theorem ggX7_holds_X2_has : GoodIn wsX7_holds wsX2_has := goodIn_r _ [6, 7, 26, 27, 28, 29, 30, 31, 32, 33] rfl (by decide +kernel)
theorem gX7_holds_X2_has_n103 : GoodIn wsX7_holds (wsX2_has) := ggX7_holds_X2_has
set_option maxRecDepth 20000 in
theorem ggX7_holds_X4_amount : GoodIn wsX7_holds wsX4_amount := goodIn_r _ [11, 12, 13, 14, 9, 15, 34, 35, 36, 37] rfl (by decide +kernel)
theorem gX7_holds_X4_amount_n129 : GoodIn wsX7_holds (wsX4_amount) := ggX7_holds_X4_amount
set_option maxRecDepth 20000 in
theorem ggX7_now_X4_inAll : GoodIn wsX7_now wsX4_inAll := goodIn_r _ [6, 7, 8, 9, 10, 4, 11, 12, 13, 14, 15, 16, 17, 18, 19, 52, 53, 54, 55, 59, 60, 61, 62, 63, 64, 65, 66] rfl (by decide +kernel)
theorem gX7_now_X4_inAll_n139 : GoodIn wsX7_now (wsX4_inAll) := ggX7_now_X4_inAll
set_option maxRecDepth 20000 in
theorem ggX7_now_X4_readable : GoodIn wsX7_now wsX4_readable := goodIn_r _ [22, 7, 23, 24, 25, 4, 26, 27, 28, 29, 30, 31, 32, 33, 34, 12, 13, 14, 15, 16, 17, 18, 19, 52, 53, 54, 55, 59, 60, 61, 62, 63, 64, 65, 66] rfl (by decide +kernel)
theorem gX7_now_X4_readable_n142 : GoodIn wsX7_now (wsX4_readable) := ggX7_now_X4_readable
set_option maxRecDepth 20000 in
theorem ggX7_now_X4_wettest : GoodIn wsX7_now wsX4_wettest := goodIn_r _ [37, 7, 38, 39, 40, 4, 41, 12, 13, 14, 15, 16, 17, 18, 19, 52, 53, 54, 55, 59, 60, 61, 62, 63, 64, 65, 66] rfl (by decide +kernel)
theorem gX7_now_X4_wettest_n145 : GoodIn wsX7_now (wsX4_wettest) := ggX7_now_X4_wettest
set_option maxRecDepth 20000 in
theorem ggX7_uses_X2_has : GoodIn wsX7_uses wsX2_has := goodIn_r _ [7, 8, 56, 57, 58, 59, 60, 61, 62, 63] rfl (by decide +kernel)
theorem gX7_uses_X2_has_n103 : GoodIn wsX7_uses (wsX2_has) := ggX7_uses_X2_has
set_option maxRecDepth 20000 in
theorem ggX7_uses_X7_isWithin : GoodIn wsX7_uses wsX7_isWithin := goodIn_r _ [12] rfl (by decide +kernel)
set_option maxRecDepth 20000 in
theorem gX7_uses_X7_isWithin : GoodIn wsX7_uses (va_wsS RX7 72 yX7_isWithin wsX7_isWithin) := goodIn_app (goodIn_r _ [9, 10, 11] rfl (by decide +kernel)) ggX7_uses_X7_isWithin
set_option maxRecDepth 20000 in
theorem ggX7_uses_X4_inPan : GoodIn wsX7_uses wsX4_inPan := goodIn_r _ [16, 17, 18, 19, 20, 14, 21, 22, 23, 24, 25, 64, 65, 66, 67, 56, 57, 58, 59, 60, 61, 62, 63] rfl (by decide +kernel)
theorem gX7_uses_X4_inPan_n116 : GoodIn wsX7_uses (wsX4_inPan) := ggX7_uses_X4_inPan
set_option maxRecDepth 20000 in
theorem ggX7_uses_X1_remember : GoodIn wsX7_uses wsX1_remember := goodIn_r _ [29, 30, 31, 32, 33, 34, 35, 36, 37, 14, 38, 39, 40, 41, 22, 68, 69, 70, 64, 65, 66, 67] rfl (by decide +kernel)
theorem gX7_uses_X1_remember_n148 : GoodIn wsX7_uses (wsX1_remember) := ggX7_uses_X1_remember
set_option maxRecDepth 20000 in
theorem ggX7_uses_X4_take : GoodIn wsX7_uses wsX4_take := goodIn_r _ [44, 17, 45, 34, 35, 36, 22, 41, 18, 19, 20, 14, 21, 23, 24, 25, 64, 65, 66, 67, 56, 57, 58, 59, 60, 61, 62, 63] rfl (by decide +kernel)
theorem gX7_uses_X4_take_n152 : GoodIn wsX7_uses (wsX4_take) := ggX7_uses_X4_take
set_option maxRecDepth 20000 in
theorem ggX7_pours_X2_has : GoodIn wsX7_pours wsX2_has := goodIn_r _ [7, 8, 56, 57, 58, 59, 60, 61, 62, 63] rfl (by decide +kernel)
theorem gX7_pours_X2_has_n103 : GoodIn wsX7_pours (wsX2_has) := ggX7_pours_X2_has
set_option maxRecDepth 20000 in
theorem ggX7_pours_X7_isWithin : GoodIn wsX7_pours wsX7_isWithin := goodIn_r _ [12] rfl (by decide +kernel)
set_option maxRecDepth 20000 in
theorem gX7_pours_X7_isWithin : GoodIn wsX7_pours (va_wsS RX7 72 yX7_isWithin wsX7_isWithin) := goodIn_app (goodIn_r _ [9, 10, 11] rfl (by decide +kernel)) ggX7_pours_X7_isWithin
set_option maxRecDepth 20000 in
theorem ggX7_pours_X4_inPan : GoodIn wsX7_pours wsX4_inPan := goodIn_r _ [16, 17, 18, 19, 20, 14, 21, 22, 23, 24, 25, 64, 65, 66, 67, 56, 57, 58, 59, 60, 61, 62, 63] rfl (by decide +kernel)
theorem gX7_pours_X4_inPan_n116 : GoodIn wsX7_pours (wsX4_inPan) := ggX7_pours_X4_inPan
set_option maxRecDepth 20000 in
theorem ggX7_pours_X1_remember : GoodIn wsX7_pours wsX1_remember := goodIn_r _ [29, 30, 31, 32, 33, 34, 35, 36, 37, 14, 38, 39, 40, 41, 22, 68, 69, 70, 64, 65, 66, 67] rfl (by decide +kernel)
theorem gX7_pours_X1_remember_n148 : GoodIn wsX7_pours (wsX1_remember) := ggX7_pours_X1_remember
set_option maxRecDepth 20000 in
theorem ggX7_pours_X4_take : GoodIn wsX7_pours wsX4_take := goodIn_r _ [44, 17, 45, 34, 35, 36, 22, 41, 18, 19, 20, 14, 21, 23, 24, 25, 64, 65, 66, 67, 56, 57, 58, 59, 60, 61, 62, 63] rfl (by decide +kernel)
theorem gX7_pours_X4_take_n152 : GoodIn wsX7_pours (wsX4_take) := ggX7_pours_X4_take
set_option maxRecDepth 20000 in
theorem ggX7_spring_X1_remember : GoodIn wsX7_spring wsX1_remember := goodIn_r _ [6, 7, 8, 9, 10, 11, 12, 13, 14, 15, 16, 17, 18, 19, 20, 51, 52, 53, 47, 48, 49, 50] rfl (by decide +kernel)
theorem gX7_spring_X1_remember_n148 : GoodIn wsX7_spring (wsX1_remember) := ggX7_spring_X1_remember
set_option maxRecDepth 20000 in
theorem ggX7_spring_X4_passSpring : GoodIn wsX7_spring wsX4_passSpring := goodIn_r _ [23, 24, 18, 25, 26, 27, 15, 28, 29, 11, 12, 13, 20, 19, 30, 31, 32, 33, 34, 35, 36, 47, 48, 49, 50, 54, 55, 56, 57, 58, 59, 60, 61] rfl (by decide +kernel)
theorem gX7_spring_X4_passSpring_n156 : GoodIn wsX7_spring (wsX4_passSpring) := ggX7_spring_X4_passSpring
set_option maxRecDepth 20000 in
theorem ggX7_splits_X2_has : GoodIn wsX7_splits wsX2_has := goodIn_r _ [7, 8, 52, 53, 54, 55, 56, 57, 58, 59] rfl (by decide +kernel)
theorem gX7_splits_X2_has_n103 : GoodIn wsX7_splits (wsX2_has) := ggX7_splits_X2_has
set_option maxRecDepth 20000 in
theorem ggX7_splits_X4_inPan : GoodIn wsX7_splits wsX4_inPan := goodIn_r _ [12, 13, 14, 15, 16, 10, 17, 18, 19, 20, 21, 60, 61, 62, 63, 52, 53, 54, 55, 56, 57, 58, 59] rfl (by decide +kernel)
theorem gX7_splits_X4_inPan_n116 : GoodIn wsX7_splits (wsX4_inPan) := ggX7_splits_X4_inPan
set_option maxRecDepth 20000 in
theorem ggX7_splits_X1_remember : GoodIn wsX7_splits wsX1_remember := goodIn_r _ [25, 26, 27, 28, 29, 30, 31, 32, 33, 10, 34, 35, 36, 37, 18, 64, 65, 66, 60, 61, 62, 63] rfl (by decide +kernel)
theorem gX7_splits_X1_remember_n148 : GoodIn wsX7_splits (wsX1_remember) := ggX7_splits_X1_remember
set_option maxRecDepth 20000 in
theorem ggX7_splits_X4_take : GoodIn wsX7_splits wsX4_take := goodIn_r _ [40, 13, 41, 30, 31, 32, 18, 37, 14, 15, 16, 10, 17, 19, 20, 21, 60, 61, 62, 63, 52, 53, 54, 55, 56, 57, 58, 59] rfl (by decide +kernel)
theorem gX7_splits_X4_take_n152 : GoodIn wsX7_splits (wsX4_take) := ggX7_splits_X4_take
set_option maxRecDepth 20000 in
theorem ggX7_undo_X1_restore : GoodIn wsX7_undo wsX1_restore := goodIn_r _ [6, 7, 8, 9, 10, 11, 12, 13, 14, 15, 16, 27, 28, 29, 30, 31, 32, 33] rfl (by decide +kernel)
theorem gX7_undo_X1_restore_n159 : GoodIn wsX7_undo (wsX1_restore) := ggX7_undo_X1_restore
set_option maxRecDepth 20000 in
theorem ggX7_lasts_X2_has : GoodIn wsX7_lasts wsX2_has := goodIn_r _ [6, 7, 35, 36, 37, 38, 39, 40, 41, 42] rfl (by decide +kernel)
theorem gX7_lasts_X2_has_n103 : GoodIn wsX7_lasts (wsX2_has) := ggX7_lasts_X2_has
set_option maxRecDepth 20000 in
theorem ggX7_lasts_X4_canBeReadIn : GoodIn wsX7_lasts wsX4_canBeReadIn := goodIn_r _ [11, 12, 13, 14, 15, 16, 17, 18, 19, 9, 20, 21, 22, 23, 24, 43, 44, 45, 46, 35, 36, 37, 38, 39, 40, 41, 42] rfl (by decide +kernel)
theorem gX7_lasts_X4_canBeReadIn_n162 : GoodIn wsX7_lasts (wsX4_canBeReadIn) := ggX7_lasts_X4_canBeReadIn
set_option maxRecDepth 20000 in
theorem ggX7_inSprings_X7_isWithin : GoodIn wsX7_inSprings wsX7_isWithin := goodIn_r _ [6] rfl (by decide +kernel)
set_option maxRecDepth 20000 in
theorem gX7_inSprings_X7_isWithin : GoodIn wsX7_inSprings (va_wsS RX7 72 yX7_isWithin wsX7_isWithin) := goodIn_app (goodIn_r _ [3, 4, 5] rfl (by decide +kernel)) ggX7_inSprings_X7_isWithin
set_option maxRecDepth 20000 in
theorem ggX7_inSprings_X7_countReadableIn : GoodIn wsX7_inSprings wsX7_countReadableIn := goodIn_r _ [10, 1, 2, 11, 12, 13, 14, 15, 16, 17, 18, 19, 20, 21, 22, 23, 24, 25, 26, 27, 43, 44, 45, 46, 47, 48, 49, 50, 51, 52, 53, 54, 55, 56, 57, 58, 59, 60, 61, 62, 63, 64] rfl (by decide +kernel)
set_option maxRecDepth 20000 in
theorem gX7_inSprings_X7_countReadableIn : GoodIn wsX7_inSprings (wsV RX7 166 RX7 yX7_countReadableIn wsX7_countReadableIn) := goodIn_app (goodIn_r _ [7, 8, 9, 5] rfl (by decide +kernel)) ggX7_inSprings_X7_countReadableIn
set_option maxRecDepth 20000 in
theorem ggX7_inSprings_X2_has : GoodIn wsX7_inSprings wsX2_has := goodIn_r _ [31, 32, 53, 54, 55, 56, 57, 58, 59, 60] rfl (by decide +kernel)
theorem gX7_inSprings_X2_has_n103 : GoodIn wsX7_inSprings (wsX2_has) := ggX7_inSprings_X2_has
set_option maxRecDepth 20000 in
theorem ggX7_inSprings_X4_inPan : GoodIn wsX7_inSprings wsX4_inPan := goodIn_r _ [35, 15, 20, 21, 22, 12, 23, 24, 25, 26, 27, 61, 62, 63, 64, 53, 54, 55, 56, 57, 58, 59, 60] rfl (by decide +kernel)
theorem gX7_inSprings_X4_inPan_n116 : GoodIn wsX7_inSprings (wsX4_inPan) := ggX7_inSprings_X4_inPan
set_option maxRecDepth 20000 in
theorem ggX7_inSprings_X7_afterSprings : GoodIn wsX7_inSprings wsX7_afterSprings := goodIn_r _ [39, 1, 40, 41, 18, 42, 43, 44, 45, 46, 47, 48, 49, 50, 51, 52, 53, 54, 55, 56, 57, 58, 59, 60] rfl (by decide +kernel)
set_option maxRecDepth 20000 in
theorem gX7_inSprings_X7_afterSprings : GoodIn wsX7_inSprings (wsV RX7 169 RX7 yX7_afterSprings wsX7_afterSprings) := goodIn_app (goodIn_r _ [36, 37, 38, 5] rfl (by decide +kernel)) ggX7_inSprings_X7_afterSprings
set_option maxRecDepth 20000 in
theorem ggX7_countReadableIn_X4_canBeReadIn : GoodIn wsX7_countReadableIn wsX4_canBeReadIn := goodIn_r _ [6, 7, 8, 9, 10, 11, 12, 13, 14, 4, 15, 16, 17, 18, 19, 38, 39, 40, 41, 30, 31, 32, 33, 34, 35, 36, 37] rfl (by decide +kernel)
theorem gX7_countReadableIn_X4_canBeReadIn_n162 : GoodIn wsX7_countReadableIn (wsX4_canBeReadIn) := ggX7_countReadableIn_X4_canBeReadIn
set_option maxRecDepth 20000 in
theorem ggX7_fire_X7_isWithin : GoodIn wsX7_fire wsX7_isWithin := goodIn_r _ [7] rfl (by decide +kernel)
set_option maxRecDepth 20000 in
theorem gX7_fire_X7_isWithin : GoodIn wsX7_fire (va_wsS RX7 72 yX7_isWithin wsX7_isWithin) := goodIn_app (goodIn_r _ [4, 5, 6] rfl (by decide +kernel)) ggX7_fire_X7_isWithin
set_option maxRecDepth 20000 in
theorem ggX7_fire_X5_weigh : GoodIn wsX7_fire wsX5_weigh := goodIn_r _ [11, 12, 13, 14, 15, 16, 17, 18, 19, 20, 21, 22, 23, 24, 25, 26, 27, 28, 29, 30, 31, 32, 33, 34, 35, 78, 79, 80, 81, 82, 83, 84, 85, 86, 87, 88, 89, 90, 91, 92, 93, 94, 95] rfl (by decide +kernel)
theorem gX7_fire_X5_weigh_n180 : GoodIn wsX7_fire (wsX5_weigh) := ggX7_fire_X5_weigh
set_option maxRecDepth 20000 in
theorem ggX7_fire_X4_readable : GoodIn wsX7_fire wsX4_readable := goodIn_r _ [38, 27, 39, 40, 41, 24, 42, 43, 44, 45, 46, 47, 48, 49, 50, 28, 29, 30, 31, 32, 33, 34, 35, 92, 93, 94, 95, 84, 85, 86, 87, 88, 89, 90, 91] rfl (by decide +kernel)
theorem gX7_fire_X4_readable_n142 : GoodIn wsX7_fire (wsX4_readable) := ggX7_fire_X4_readable
set_option maxRecDepth 20000 in
theorem ggX7_fire_X5_bestFire : GoodIn wsX7_fire wsX5_bestFire := goodIn_r _ [53, 12, 16, 54, 55, 56, 9, 57, 58, 59, 60, 61, 62, 63, 64, 65, 66, 67, 78, 79, 80, 81, 82, 83] rfl (by decide +kernel)
theorem gX7_fire_X5_bestFire_n184 : GoodIn wsX7_fire (wsX5_bestFire) := ggX7_fire_X5_bestFire
set_option maxRecDepth 20000 in
theorem ggX7_fire_X5_countLeft : GoodIn wsX7_fire wsX5_countLeft := goodIn_r _ [60, 61, 62, 63, 64, 65, 66, 67] rfl (by decide +kernel)
theorem gX7_fire_X5_countLeft_n187 : GoodIn wsX7_fire (wsX5_countLeft) := ggX7_fire_X5_countLeft
set_option maxRecDepth 20000 in
theorem ggX7_spoil_X2_has : GoodIn wsX7_spoil wsX2_has := goodIn_r _ [6, 7, 42, 43, 44, 45, 46, 47, 48, 49] rfl (by decide +kernel)
theorem gX7_spoil_X2_has_n103 : GoodIn wsX7_spoil (wsX2_has) := ggX7_spoil_X2_has
set_option maxRecDepth 20000 in
theorem ggX7_spoil_X4_canBeRead : GoodIn wsX7_spoil wsX4_canBeRead := goodIn_r _ [11, 12, 13, 14, 9, 15, 16, 17, 18, 19, 20, 21, 22, 23, 24, 25, 26, 27, 28, 50, 51, 52, 53, 42, 43, 44, 45, 46, 47, 48, 49] rfl (by decide +kernel)
theorem gX7_spoil_X4_canBeRead_n120 : GoodIn wsX7_spoil (wsX4_canBeRead) := ggX7_spoil_X4_canBeRead
set_option maxRecDepth 20000 in
theorem ggX7_spoil_X4_inPan : GoodIn wsX7_spoil wsX4_inPan := goodIn_r _ [31, 16, 21, 22, 23, 9, 24, 25, 26, 27, 28, 50, 51, 52, 53, 42, 43, 44, 45, 46, 47, 48, 49] rfl (by decide +kernel)
theorem gX7_spoil_X4_inPan_n116 : GoodIn wsX7_spoil (wsX4_inPan) := ggX7_spoil_X4_inPan
set_option maxRecDepth 20000 in
theorem ggX7_mix_X7_isWithin : GoodIn wsX7_mix wsX7_isWithin := goodIn_r _ [5] rfl (by decide +kernel)
set_option maxRecDepth 20000 in
theorem gX7_mix_X7_isWithin : GoodIn wsX7_mix (va_wsS RX7 72 yX7_isWithin wsX7_isWithin) := goodIn_app (goodIn_r _ [2, 3, 4] rfl (by decide +kernel)) ggX7_mix_X7_isWithin
set_option maxRecDepth 20000 in
theorem ggX7_mix_X2_spoonsOfLesser : GoodIn wsX7_mix wsX2_spoonsOfLesser := goodIn_r _ [9, 10, 21, 22, 23, 24, 25, 26, 27, 28] rfl (by decide +kernel)
theorem gX7_mix_X2_spoonsOfLesser_n193 : GoodIn wsX7_mix (wsX2_spoonsOfLesser) := ggX7_mix_X2_spoonsOfLesser
set_option maxRecDepth 20000 in
theorem ggX7_levels_X7_isWithin : GoodIn wsX7_levels wsX7_isWithin := goodIn_r _ [6] rfl (by decide +kernel)
set_option maxRecDepth 20000 in
theorem gX7_levels_X7_isWithin : GoodIn wsX7_levels (va_wsS RX7 72 yX7_isWithin wsX7_isWithin) := goodIn_app (goodIn_r _ [3, 4, 5] rfl (by decide +kernel)) ggX7_levels_X7_isWithin
set_option maxRecDepth 20000 in
theorem ggX7_levels_X2_has : GoodIn wsX7_levels wsX2_has := goodIn_r _ [10, 11, 34, 35, 36, 37, 38, 39, 40, 41] rfl (by decide +kernel)
theorem gX7_levels_X2_has_n103 : GoodIn wsX7_levels (wsX2_has) := ggX7_levels_X2_has
set_option maxRecDepth 20000 in
theorem ggX7_levels_X3_append : GoodIn wsX7_levels wsX3_append := goodIn_r _ [15, 16, 17, 18, 19, 30, 31, 32, 33] rfl (by decide +kernel)
theorem gX7_levels_X3_append_n197 : GoodIn wsX7_levels (wsX3_append) := ggX7_levels_X3_append
set_option maxRecDepth 20000 in
theorem ggX7_theft_X7_isWithin : GoodIn wsX7_theft wsX7_isWithin := goodIn_r _ [10] rfl (by decide +kernel)
set_option maxRecDepth 20000 in
theorem gX7_theft_X7_isWithin : GoodIn wsX7_theft (va_wsS RX7 72 yX7_isWithin wsX7_isWithin) := goodIn_app (goodIn_r _ [7, 8, 9] rfl (by decide +kernel)) ggX7_theft_X7_isWithin
set_option maxRecDepth 20000 in
theorem ggX7_theft_X4_inPan : GoodIn wsX7_theft wsX4_inPan := goodIn_r _ [14, 15, 16, 17, 18, 12, 19, 20, 21, 22, 23, 54, 55, 56, 57, 46, 47, 48, 49, 50, 51, 52, 53] rfl (by decide +kernel)
theorem gX7_theft_X4_inPan_n116 : GoodIn wsX7_theft (wsX4_inPan) := ggX7_theft_X4_inPan
set_option maxRecDepth 20000 in
theorem ggX7_theft_X7_areLevelsSo : GoodIn wsX7_theft wsX7_areLevelsSo := goodIn_r _ [27, 28, 2, 11, 12, 13, 14, 15, 16, 17, 18, 19, 20, 21, 22, 23, 29, 30, 31, 9, 32, 1, 33, 34, 5, 35, 36, 37, 38, 39, 40, 41, 42, 43, 44, 45, 58, 59, 60, 61, 54, 55, 56, 57, 46, 47, 48, 49, 50, 51, 52, 53] rfl (by decide +kernel)
set_option maxRecDepth 20000 in
theorem gX7_theft_X7_areLevelsSo : GoodIn wsX7_theft (wsV RX7 202 RX7 yX7_areLevelsSo wsX7_areLevelsSo) := goodIn_app (goodIn_r _ [24, 25, 26, 9] rfl (by decide +kernel)) ggX7_theft_X7_areLevelsSo
set_option maxRecDepth 20000 in
theorem ggX7_areLevelsSo_X4_inPan : GoodIn wsX7_areLevelsSo wsX4_inPan := goodIn_r _ [6, 7, 8, 9, 10, 4, 11, 12, 13, 14, 15, 40, 41, 42, 43, 44, 45, 46, 47, 48, 49, 50, 51] rfl (by decide +kernel)
theorem gX7_areLevelsSo_X4_inPan_n116 : GoodIn wsX7_areLevelsSo (wsX4_inPan) := ggX7_areLevelsSo_X4_inPan
set_option maxRecDepth 20000 in
theorem ggX7_areLevelsSo_X7_afterSprings : GoodIn wsX7_areLevelsSo wsX7_afterSprings := goodIn_r _ [20, 21, 22, 23, 24, 25, 26, 27, 28, 29, 30, 31, 32, 33, 34, 35, 44, 45, 46, 47, 48, 49, 50, 51] rfl (by decide +kernel)
set_option maxRecDepth 20000 in
theorem gX7_areLevelsSo_X7_afterSprings : GoodIn wsX7_areLevelsSo (wsV RX7 169 RX7 yX7_afterSprings wsX7_afterSprings) := goodIn_app (goodIn_r _ [16, 17, 18, 19] rfl (by decide +kernel)) ggX7_areLevelsSo_X7_afterSprings
set_option maxRecDepth 20000 in
theorem ggX7_shelves_X5_weigh : GoodIn wsX7_shelves wsX5_weigh := goodIn_r _ [7, 8, 9, 10, 11, 12, 13, 14, 15, 16, 17, 18, 19, 20, 21, 22, 23, 24, 25, 26, 27, 28, 29, 30, 31, 62, 63, 64, 65, 66, 67, 68, 69, 70, 71, 72, 73, 74, 75, 76, 77, 78, 79] rfl (by decide +kernel)
theorem gX7_shelves_X5_weigh_n180 : GoodIn wsX7_shelves (wsX5_weigh) := ggX7_shelves_X5_weigh
set_option maxRecDepth 20000 in
theorem ggX7_shelves_X5_fewestShelves : GoodIn wsX7_shelves wsX5_fewestShelves := goodIn_r _ [34, 8, 12, 9, 35, 11, 36, 37, 38, 5, 39, 40, 41, 42, 43, 44, 45, 46, 47, 48, 49, 50, 51, 10, 62, 63, 64, 65, 66, 67] rfl (by decide +kernel)
theorem gX7_shelves_X5_fewestShelves_n212 : GoodIn wsX7_shelves (wsX5_fewestShelves) := ggX7_shelves_X5_fewestShelves
set_option maxRecDepth 20000 in
theorem ggX7_beside_X2_has : GoodIn wsX7_beside wsX2_has := goodIn_r _ [7, 8, 67, 68, 69, 70, 71, 72, 73, 74] rfl (by decide +kernel)
theorem gX7_beside_X2_has_n103 : GoodIn wsX7_beside (wsX2_has) := ggX7_beside_X2_has
set_option maxRecDepth 20000 in
theorem ggX7_beside_X5_weigh : GoodIn wsX7_beside wsX5_weigh := goodIn_r _ [12, 13, 14, 15, 16, 17, 18, 5, 19, 20, 8, 21, 22, 23, 24, 25, 26, 27, 28, 29, 30, 31, 32, 33, 34, 75, 76, 77, 78, 79, 80, 67, 68, 69, 70, 71, 72, 73, 74, 81, 82, 83, 84] rfl (by decide +kernel)
theorem gX7_beside_X5_weigh_n180 : GoodIn wsX7_beside (wsX5_weigh) := ggX7_beside_X5_weigh
set_option maxRecDepth 20000 in
theorem ggX7_beside_X5_mostBeside : GoodIn wsX7_beside wsX5_mostBeside := goodIn_r _ [37, 13, 38, 39, 40, 41, 42, 43, 44, 10, 45, 16, 46, 47, 48, 49, 15, 17, 14, 50, 51, 52, 53, 54, 55, 56, 75, 76, 77, 78, 79, 80] rfl (by decide +kernel)
theorem gX7_beside_X5_mostBeside_n215 : GoodIn wsX7_beside (wsX5_mostBeside) := ggX7_beside_X5_mostBeside
set_option maxRecDepth 20000 in
theorem ggX7_odds_X7_isWithin : GoodIn wsX7_odds wsX7_isWithin := goodIn_r _ [6] rfl (by decide +kernel)
set_option maxRecDepth 20000 in
theorem gX7_odds_X7_isWithin : GoodIn wsX7_odds (va_wsS RX7 72 yX7_isWithin wsX7_isWithin) := goodIn_app (goodIn_r _ [3, 4, 5] rfl (by decide +kernel)) ggX7_odds_X7_isWithin
set_option maxRecDepth 20000 in
theorem ggX7_odds_X4_readable : GoodIn wsX7_odds wsX4_readable := goodIn_r _ [10, 11, 12, 13, 14, 8, 15, 16, 17, 18, 19, 20, 21, 22, 23, 24, 25, 26, 27, 28, 29, 30, 31, 70, 71, 72, 73, 74, 75, 76, 77, 78, 79, 80, 81] rfl (by decide +kernel)
theorem gX7_odds_X4_readable_n142 : GoodIn wsX7_odds (wsX4_readable) := ggX7_odds_X4_readable
set_option maxRecDepth 20000 in
theorem ggX7_odds_J6_bitCount_0f7a4 : GoodIn wsX7_odds wsJ6_bitCount_0f7a4 := goodIn_r _ [35, 36, 37, 38] rfl (by decide +kernel)
set_option maxRecDepth 20000 in
theorem gX7_odds_J6_bitCount_0f7a4 : GoodIn wsX7_odds (va_wsS RX7 218 yJ6_bitCount_0f7a4 wsJ6_bitCount_0f7a4) := goodIn_app (goodIn_r _ [32, 33, 34] rfl (by decide +kernel)) ggX7_odds_J6_bitCount_0f7a4
set_option maxRecDepth 20000 in
theorem ggX7_odds_X0_reckon : GoodIn wsX7_odds wsX0_reckon := goodIn_r _ [42, 43, 44, 45, 46, 47, 22, 48, 49, 50, 51, 40, 52, 53, 54, 55, 56, 67, 68, 69] rfl (by decide +kernel)
theorem gX7_odds_X0_reckon_n223 : GoodIn wsX7_odds (wsX0_reckon) := ggX7_odds_X0_reckon
set_option maxRecDepth 20000 in
theorem ggX7_rate_X2_has : GoodIn wsX7_rate wsX2_has := goodIn_r _ [6, 7, 63, 64, 65, 66, 67, 68, 69, 70] rfl (by decide +kernel)
theorem gX7_rate_X2_has_n103 : GoodIn wsX7_rate (wsX2_has) := ggX7_rate_X2_has
set_option maxRecDepth 20000 in
theorem ggX7_rate_X7_rateOfPan : GoodIn wsX7_rate wsX7_rateOfPan := goodIn_r _ [12, 13, 14, 15, 16, 17, 18, 19, 20, 21, 22, 23, 24, 25, 26, 27, 53, 54, 55, 56, 57, 58, 59, 60, 61, 62, 71, 72, 73, 74, 63, 64, 65, 66, 67, 68, 69, 70] rfl (by decide +kernel)
set_option maxRecDepth 20000 in
theorem gX7_rate_X7_rateOfPan : GoodIn wsX7_rate (wsV RX7 234 RX7 yX7_rateOfPan wsX7_rateOfPan) := goodIn_app (goodIn_r _ [8, 9, 10, 11] rfl (by decide +kernel)) ggX7_rate_X7_rateOfPan
set_option maxRecDepth 20000 in
theorem ggX7_rate_X7_rateOfSaucer : GoodIn wsX7_rate wsX7_rateOfSaucer := goodIn_r _ [31, 13, 32, 1, 8, 9, 10, 11, 12, 14, 15, 16, 17, 18, 19, 20, 21, 22, 23, 24, 25, 26, 27, 53, 54, 55, 56, 57, 58, 59, 60, 61, 62, 63, 64, 65, 66, 67, 68, 69, 70, 71, 72, 73, 74] rfl (by decide +kernel)
set_option maxRecDepth 20000 in
theorem gX7_rate_X7_rateOfSaucer : GoodIn wsX7_rate (wsV RX7 237 RX7 yX7_rateOfSaucer wsX7_rateOfSaucer) := goodIn_app (goodIn_r _ [28, 29, 30, 11] rfl (by decide +kernel)) ggX7_rate_X7_rateOfSaucer
set_option maxRecDepth 20000 in
theorem ggX7_rate_X7_rateOfBottle : GoodIn wsX7_rate wsX7_rateOfBottle := goodIn_r _ [36, 13, 37, 1, 8, 9, 10, 11, 12, 14, 15, 16, 17, 18, 19, 20, 21, 22, 23, 24, 25, 26, 27, 53, 54, 55, 56, 57, 58, 59, 60, 61, 62, 63, 64, 65, 66, 67, 68, 69, 70, 71, 72, 73, 74] rfl (by decide +kernel)
set_option maxRecDepth 20000 in
theorem gX7_rate_X7_rateOfBottle : GoodIn wsX7_rate (wsV RX7 240 RX7 yX7_rateOfBottle wsX7_rateOfBottle) := goodIn_app (goodIn_r _ [33, 34, 35, 11] rfl (by decide +kernel)) ggX7_rate_X7_rateOfBottle
set_option maxRecDepth 20000 in
theorem ggX7_rate_X7_rateOfFont : GoodIn wsX7_rate wsX7_rateOfFont := goodIn_r _ [41, 13, 42, 28, 29, 30, 11, 31, 32, 1, 8, 9, 10, 12, 14, 15, 16, 17, 18, 19, 20, 21, 22, 23, 24, 25, 26, 27, 53, 54, 55, 56, 57, 58, 59, 60, 61, 62, 63, 64, 65, 66, 67, 68, 69, 70, 71, 72, 73, 74] rfl (by decide +kernel)
set_option maxRecDepth 20000 in
theorem gX7_rate_X7_rateOfFont : GoodIn wsX7_rate (wsV RX7 243 RX7 yX7_rateOfFont wsX7_rateOfFont) := goodIn_app (goodIn_r _ [38, 39, 40, 11] rfl (by decide +kernel)) ggX7_rate_X7_rateOfFont
set_option maxRecDepth 20000 in
theorem ggX7_rate_X7_rateOfPhial : GoodIn wsX7_rate wsX7_rateOfPhial := goodIn_r _ [46, 13, 47, 33, 34, 35, 11, 36, 37, 1, 8, 9, 10, 12, 14, 15, 16, 17, 18, 19, 20, 21, 22, 23, 24, 25, 26, 27, 53, 54, 55, 56, 57, 58, 59, 60, 61, 62, 63, 64, 65, 66, 67, 68, 69, 70, 71, 72, 73, 74] rfl (by decide +kernel)
set_option maxRecDepth 20000 in
theorem gX7_rate_X7_rateOfPhial : GoodIn wsX7_rate (wsV RX7 246 RX7 yX7_rateOfPhial wsX7_rateOfPhial) := goodIn_app (goodIn_r _ [43, 44, 45, 11] rfl (by decide +kernel)) ggX7_rate_X7_rateOfPhial
set_option maxRecDepth 20000 in
theorem ggX7_rate_X7_rateOfUrn : GoodIn wsX7_rate wsX7_rateOfUrn := goodIn_r _ [51, 13, 52, 14, 8, 9, 10, 11, 12, 15, 16, 17, 18, 19, 20, 21, 22, 23, 24, 25, 26, 27, 53, 54, 55, 56, 57, 58, 59, 60, 61, 62, 71, 72, 73, 74, 63, 64, 65, 66, 67, 68, 69, 70] rfl (by decide +kernel)
set_option maxRecDepth 20000 in
theorem gX7_rate_X7_rateOfUrn : GoodIn wsX7_rate (wsV RX7 249 RX7 yX7_rateOfUrn wsX7_rateOfUrn) := goodIn_app (goodIn_r _ [48, 49, 50, 11] rfl (by decide +kernel)) ggX7_rate_X7_rateOfUrn
set_option maxRecDepth 20000 in
theorem ggX7_rateOfPan_X4_inPan : GoodIn wsX7_rateOfPan wsX4_inPan := goodIn_r _ [6, 7, 8, 9, 10, 4, 11, 12, 13, 14, 15, 26, 27, 28, 29, 30, 31, 32, 33, 34, 35, 36, 37] rfl (by decide +kernel)
theorem gX7_rateOfPan_X4_inPan_n116 : GoodIn wsX7_rateOfPan (wsX4_inPan) := ggX7_rateOfPan_X4_inPan
set_option maxRecDepth 20000 in
theorem ggX7_rateOfSaucer_X7_rateOfPan : GoodIn wsX7_rateOfSaucer wsX7_rateOfPan := goodIn_r _ [8, 1, 9, 10, 11, 12, 13, 14, 15, 16, 17, 18, 19, 20, 21, 22, 23, 24, 25, 26, 27, 28, 29, 30, 31, 32, 41, 42, 43, 44, 33, 34, 35, 36, 37, 38, 39, 40] rfl (by decide +kernel)
set_option maxRecDepth 20000 in
theorem gX7_rateOfSaucer_X7_rateOfPan : GoodIn wsX7_rateOfSaucer (wsV RX7 234 RX7 yX7_rateOfPan wsX7_rateOfPan) := goodIn_app (goodIn_r _ [4, 5, 6, 7] rfl (by decide +kernel)) ggX7_rateOfSaucer_X7_rateOfPan
set_option maxRecDepth 20000 in
theorem ggX7_rateOfBottle_X7_rateOfPan : GoodIn wsX7_rateOfBottle wsX7_rateOfPan := goodIn_r _ [8, 1, 9, 10, 11, 12, 13, 14, 15, 16, 17, 18, 19, 20, 21, 22, 23, 24, 25, 26, 27, 28, 29, 30, 31, 32, 41, 42, 43, 44, 33, 34, 35, 36, 37, 38, 39, 40] rfl (by decide +kernel)
set_option maxRecDepth 20000 in
theorem gX7_rateOfBottle_X7_rateOfPan : GoodIn wsX7_rateOfBottle (wsV RX7 234 RX7 yX7_rateOfPan wsX7_rateOfPan) := goodIn_app (goodIn_r _ [4, 5, 6, 7] rfl (by decide +kernel)) ggX7_rateOfBottle_X7_rateOfPan
set_option maxRecDepth 20000 in
theorem ggX7_rateOfFont_X7_rateOfSaucer : GoodIn wsX7_rateOfFont wsX7_rateOfSaucer := goodIn_r _ [7, 1, 8, 9, 10, 11, 12, 6, 13, 14, 15, 16, 17, 18, 19, 20, 21, 22, 23, 24, 25, 26, 27, 28, 29, 30, 31, 32, 33, 34, 35, 36, 37, 38, 39, 40, 41, 42, 43, 44, 45, 46, 47, 48, 49] rfl (by decide +kernel)
set_option maxRecDepth 20000 in
theorem gX7_rateOfFont_X7_rateOfSaucer : GoodIn wsX7_rateOfFont (wsV RX7 237 RX7 yX7_rateOfSaucer wsX7_rateOfSaucer) := goodIn_app (goodIn_r _ [3, 4, 5, 6] rfl (by decide +kernel)) ggX7_rateOfFont_X7_rateOfSaucer
set_option maxRecDepth 20000 in
theorem ggX7_rateOfPhial_X7_rateOfBottle : GoodIn wsX7_rateOfPhial wsX7_rateOfBottle := goodIn_r _ [7, 1, 8, 9, 10, 11, 12, 6, 13, 14, 15, 16, 17, 18, 19, 20, 21, 22, 23, 24, 25, 26, 27, 28, 29, 30, 31, 32, 33, 34, 35, 36, 37, 38, 39, 40, 41, 42, 43, 44, 45, 46, 47, 48, 49] rfl (by decide +kernel)
set_option maxRecDepth 20000 in
theorem gX7_rateOfPhial_X7_rateOfBottle : GoodIn wsX7_rateOfPhial (wsV RX7 240 RX7 yX7_rateOfBottle wsX7_rateOfBottle) := goodIn_app (goodIn_r _ [3, 4, 5, 6] rfl (by decide +kernel)) ggX7_rateOfPhial_X7_rateOfBottle
set_option maxRecDepth 20000 in
theorem ggX7_rateOfUrn_X7_rateOfPan : GoodIn wsX7_rateOfUrn wsX7_rateOfPan := goodIn_r _ [8, 1, 3, 9, 10, 11, 12, 13, 14, 15, 16, 17, 18, 19, 20, 21, 22, 23, 24, 25, 26, 27, 28, 29, 30, 31, 32, 33, 34, 35, 36, 37, 38, 39, 40, 41, 42, 43] rfl (by decide +kernel)
set_option maxRecDepth 20000 in
theorem gX7_rateOfUrn_X7_rateOfPan : GoodIn wsX7_rateOfUrn (wsV RX7 234 RX7 yX7_rateOfPan wsX7_rateOfPan) := goodIn_app (goodIn_r _ [4, 5, 6, 7] rfl (by decide +kernel)) ggX7_rateOfUrn_X7_rateOfPan
set_option maxRecDepth 20000 in
theorem ggX7_keep_X7_isWithin : GoodIn wsX7_keep wsX7_isWithin := goodIn_r _ [7] rfl (by decide +kernel)
set_option maxRecDepth 20000 in
theorem gX7_keep_X7_isWithin : GoodIn wsX7_keep (va_wsS RX7 72 yX7_isWithin wsX7_isWithin) := goodIn_app (goodIn_r _ [4, 5, 6] rfl (by decide +kernel)) ggX7_keep_X7_isWithin
set_option maxRecDepth 20000 in
theorem ggX7_keep_X4_become : GoodIn wsX7_keep wsX4_become := goodIn_r _ [11, 12, 13, 14, 25, 26, 27, 28] rfl (by decide +kernel)
theorem gX7_keep_X4_become_n262 : GoodIn wsX7_keep (wsX4_become) := ggX7_keep_X4_become
set_option maxRecDepth 20000 in
theorem ggX7_back_X7_isWithin : GoodIn wsX7_back wsX7_isWithin := goodIn_r _ [8] rfl (by decide +kernel)
set_option maxRecDepth 20000 in
theorem gX7_back_X7_isWithin : GoodIn wsX7_back (va_wsS RX7 72 yX7_isWithin wsX7_isWithin) := goodIn_app (goodIn_r _ [5, 6, 7] rfl (by decide +kernel)) ggX7_back_X7_isWithin
set_option maxRecDepth 20000 in
theorem ggX7_back_X4_become : GoodIn wsX7_back wsX4_become := goodIn_r _ [12, 13, 14, 15, 29, 30, 31, 32] rfl (by decide +kernel)
theorem gX7_back_X4_become_n262 : GoodIn wsX7_back (wsX4_become) := ggX7_back_X4_become
set_option maxRecDepth 20000 in
theorem ggX8_init_X8_reads : GoodIn wsX8_init wsX8_reads := goodIn_r _ [21, 7, 22, 23, 24, 25, 26, 20, 27, 28, 29, 5, 30, 31, 32, 33, 34, 35, 36, 37, 38, 39, 40, 41, 42, 43, 44, 45, 46, 47, 48, 49, 50, 51, 52, 59, 60, 61, 62, 63, 64, 65, 66, 67, 68, 69, 70, 71, 72, 73, 74, 75, 76, 77] rfl (by decide +kernel)
set_option maxRecDepth 20000 in
theorem gX8_init_X8_reads : GoodIn wsX8_init (wsV RX8 44 RX8 yX8_reads wsX8_reads) := goodIn_app (goodIn_r _ [17, 18, 19, 20] rfl (by decide +kernel)) ggX8_init_X8_reads
set_option maxRecDepth 20000 in
theorem ggX8_init_X8_tells : GoodIn wsX8_init wsX8_tells := goodIn_r _ [56, 6, 7, 8, 57, 58, 12, 59, 60, 61, 62, 63, 64, 65, 66, 67, 68, 69, 70, 71, 72, 73, 74, 75, 76, 77] rfl (by decide +kernel)
set_option maxRecDepth 20000 in
theorem gX8_init_X8_tells : GoodIn wsX8_init (wsV RX8 48 RX8 yX8_tells wsX8_tells) := goodIn_app (goodIn_r _ [53, 54, 55, 20] rfl (by decide +kernel)) ggX8_init_X8_tells
set_option maxRecDepth 20000 in
theorem ggX8_isPan_X8_in : GoodIn wsX8_isPan wsX8_in := goodIn_r _ [5] rfl (by decide +kernel)
set_option maxRecDepth 20000 in
theorem gX8_isPan_X8_in : GoodIn wsX8_isPan (va_wsS RX8 51 yX8_in wsX8_in) := goodIn_app (goodIn_r _ [2, 3, 4] rfl (by decide +kernel)) ggX8_isPan_X8_in
set_option maxRecDepth 20000 in
theorem ggX8_type_X8_in : GoodIn wsX8_type wsX8_in := goodIn_r _ [6] rfl (by decide +kernel)
set_option maxRecDepth 20000 in
theorem gX8_type_X8_in : GoodIn wsX8_type (va_wsS RX8 51 yX8_in wsX8_in) := goodIn_app (goodIn_r _ [3, 4, 5] rfl (by decide +kernel)) ggX8_type_X8_in
set_option maxRecDepth 20000 in
theorem ggX8_isDigit_X8_in : GoodIn wsX8_isDigit wsX8_in := goodIn_r _ [4] rfl (by decide +kernel)
set_option maxRecDepth 20000 in
theorem gX8_isDigit_X8_in : GoodIn wsX8_isDigit (va_wsS RX8 51 yX8_in wsX8_in) := goodIn_app (goodIn_r _ [1, 2, 3] rfl (by decide +kernel)) ggX8_isDigit_X8_in
set_option maxRecDepth 20000 in
theorem ggX8_token_X8_letterAt : GoodIn wsX8_token wsX8_letterAt := goodIn_r _ [10, 11, 5, 18, 19, 20, 21, 22, 23, 24, 25, 26, 27, 28, 29, 30, 31, 32, 33, 34, 35, 36] rfl (by decide +kernel)
set_option maxRecDepth 20000 in
theorem gX8_token_X8_letterAt : GoodIn wsX8_token (wsV RX8 62 RX8 yX8_letterAt wsX8_letterAt) := goodIn_app (goodIn_r _ [6, 7, 8, 9] rfl (by decide +kernel)) ggX8_token_X8_letterAt
set_option maxRecDepth 20000 in
theorem ggX8_token_X8_isDigit : GoodIn wsX8_token wsX8_isDigit := goodIn_r _ [14, 15, 16, 9, 17] rfl (by decide +kernel)
set_option maxRecDepth 20000 in
theorem gX8_token_X8_isDigit : GoodIn wsX8_token (va_wsS RX8 69 yX8_isDigit wsX8_isDigit) := goodIn_app (goodIn_r _ [12, 13, 9] rfl (by decide +kernel)) ggX8_token_X8_isDigit
set_option maxRecDepth 20000 in
theorem ggX8_number_X8_token : GoodIn wsX8_number wsX8_token := goodIn_r _ [8, 9, 10, 3, 2, 11, 12, 13, 14, 7, 15, 16, 17, 18, 19, 20, 21, 22, 23, 24, 25, 26, 27, 28, 29, 30, 31, 32, 33, 34, 35, 36, 37, 38, 39, 40, 41] rfl (by decide +kernel)
set_option maxRecDepth 20000 in
theorem gX8_number_X8_token : GoodIn wsX8_number (wsV RX8 79 RX8 yX8_token wsX8_token) := goodIn_app (goodIn_r _ [4, 5, 6, 7] rfl (by decide +kernel)) ggX8_number_X8_token
set_option maxRecDepth 20000 in
theorem ggX8_number_X8_in : GoodIn wsX8_number wsX8_in := goodIn_r _ [22] rfl (by decide +kernel)
set_option maxRecDepth 20000 in
theorem gX8_number_X8_in : GoodIn wsX8_number (va_wsS RX8 51 yX8_in wsX8_in) := goodIn_app (goodIn_r _ [20, 21, 7] rfl (by decide +kernel)) ggX8_number_X8_in
set_option maxRecDepth 20000 in
theorem ggX8_once_X8_number : GoodIn wsX8_once wsX8_number := goodIn_r _ [6, 1, 7, 8, 9, 10, 11, 5, 12, 13, 14, 15, 16, 17, 18, 19, 20, 21, 22, 23, 24, 25, 26, 27, 28, 29, 30, 31, 32, 33, 34, 35, 36, 37, 38, 39, 40, 41, 42, 43, 44, 45] rfl (by decide +kernel)
set_option maxRecDepth 20000 in
theorem gX8_once_X8_number : GoodIn wsX8_once (wsV RX8 82 RX8 yX8_number wsX8_number) := goodIn_app (goodIn_r _ [2, 3, 4, 5] rfl (by decide +kernel)) ggX8_once_X8_number
set_option maxRecDepth 20000 in
theorem ggX8_readsItem_X8_number : GoodIn wsX8_readsItem wsX8_number := goodIn_r _ [8, 3, 2, 1, 9, 10, 11, 7, 12, 13, 14, 15, 16, 17, 18, 19, 20, 21, 22, 23, 24, 25, 26, 31, 32, 33, 34, 35, 36, 37, 38, 39, 40, 41, 42, 43, 44, 45, 46, 47, 48, 49] rfl (by decide +kernel)
set_option maxRecDepth 20000 in
theorem gX8_readsItem_X8_number : GoodIn wsX8_readsItem (wsV RX8 82 RX8 yX8_number wsX8_number) := goodIn_app (goodIn_r _ [4, 5, 6, 7] rfl (by decide +kernel)) ggX8_readsItem_X8_number
set_option maxRecDepth 20000 in
theorem ggX8_readsItem_X8_once : GoodIn wsX8_readsItem wsX8_once := goodIn_r _ [30, 3, 4, 5, 6, 7, 8, 2, 1, 9, 10, 11, 12, 13, 14, 15, 16, 17, 18, 19, 20, 21, 22, 23, 24, 25, 26, 31, 32, 33, 34, 35, 36, 37, 38, 39, 40, 41, 42, 43, 44, 45, 46, 47, 48, 49] rfl (by decide +kernel)
set_option maxRecDepth 20000 in
theorem gX8_readsItem_X8_once : GoodIn wsX8_readsItem (wsV RX8 85 RX8 yX8_once wsX8_once) := goodIn_app (goodIn_r _ [27, 28, 29, 7] rfl (by decide +kernel)) ggX8_readsItem_X8_once
set_option maxRecDepth 20000 in
theorem ggX8_reads_X8_token : GoodIn wsX8_reads wsX8_token := goodIn_r _ [8, 2, 9, 3, 10, 11, 12, 13, 14, 7, 15, 16, 17, 18, 19, 20, 21, 22, 35, 36, 37, 38, 39, 40, 41, 42, 43, 44, 45, 46, 47, 48, 49, 50, 51, 52, 53] rfl (by decide +kernel)
set_option maxRecDepth 20000 in
theorem gX8_reads_X8_token : GoodIn wsX8_reads (wsV RX8 79 RX8 yX8_token wsX8_token) := goodIn_app (goodIn_r _ [4, 5, 6, 7] rfl (by decide +kernel)) ggX8_reads_X8_token
set_option maxRecDepth 20000 in
theorem ggX8_reads_X8_readsItem : GoodIn wsX8_reads wsX8_readsItem := goodIn_r _ [26, 3, 10, 1, 27, 28, 29, 7, 30, 4, 5, 6, 8, 2, 9, 11, 12, 13, 14, 15, 16, 17, 18, 19, 20, 21, 22, 31, 32, 33, 34, 35, 36, 37, 38, 39, 40, 41, 42, 43, 44, 45, 46, 47, 48, 49, 50, 51, 52, 53] rfl (by decide +kernel)
set_option maxRecDepth 20000 in
theorem gX8_reads_X8_readsItem : GoodIn wsX8_reads (wsV RX8 89 RX8 yX8_readsItem wsX8_readsItem) := goodIn_app (goodIn_r _ [23, 24, 25, 7] rfl (by decide +kernel)) ggX8_reads_X8_readsItem
set_option maxRecDepth 20000 in
theorem ggX8_house_X8_reads : GoodIn wsX8_house wsX8_reads := goodIn_r _ [8, 9, 10, 11, 12, 13, 14, 7, 15, 1, 16, 17, 18, 19, 20, 21, 2, 22, 23, 24, 25, 26, 27, 28, 29, 30, 31, 32, 33, 34, 35, 36, 37, 38, 39, 48, 49, 50, 51, 52, 53, 54, 55, 56, 57, 58, 59, 60, 61, 62, 63, 64, 65, 66] rfl (by decide +kernel)
set_option maxRecDepth 20000 in
theorem gX8_house_X8_reads : GoodIn wsX8_house (wsV RX8 44 RX8 yX8_reads wsX8_reads) := goodIn_app (goodIn_r _ [4, 5, 6, 7] rfl (by decide +kernel)) ggX8_house_X8_reads
set_option maxRecDepth 20000 in
theorem ggX8_house_X8_tells : GoodIn wsX8_house wsX8_tells := goodIn_r _ [43, 3, 9, 44, 45, 46, 47, 48, 49, 50, 51, 52, 53, 54, 55, 56, 57, 58, 59, 60, 61, 62, 63, 64, 65, 66] rfl (by decide +kernel)
set_option maxRecDepth 20000 in
theorem gX8_house_X8_tells : GoodIn wsX8_house (wsV RX8 48 RX8 yX8_tells wsX8_tells) := goodIn_app (goodIn_r _ [40, 41, 42, 7] rfl (by decide +kernel)) ggX8_house_X8_tells
set_option maxRecDepth 20000 in
theorem ggX8_isRead_X8_full : GoodIn wsX8_isRead wsX8_full := goodIn_r _ [7, 1, 8, 9, 10, 11, 12, 13, 14, 15, 16, 17, 18, 19, 20, 21, 22, 23, 24, 25, 26] rfl (by decide +kernel)
set_option maxRecDepth 20000 in
theorem gX8_isRead_X8_full : GoodIn wsX8_isRead (wsV RX8 98 RX8 yX8_full wsX8_full) := goodIn_app (goodIn_r _ [3, 4, 5, 6] rfl (by decide +kernel)) ggX8_isRead_X8_full
set_option maxRecDepth 20000 in
theorem ggX8_allRead_X8_isRead : GoodIn wsX8_allRead wsX8_isRead := goodIn_r _ [6, 7, 1, 8, 9, 10, 5, 11, 12, 13, 14, 15, 16, 17, 18, 19, 20, 21, 22, 23, 24, 25, 26, 27, 28, 29, 30] rfl (by decide +kernel)
set_option maxRecDepth 20000 in
theorem gX8_allRead_X8_isRead : GoodIn wsX8_allRead (wsV RX8 101 RX8 yX8_isRead wsX8_isRead) := goodIn_app (goodIn_r _ [2, 3, 4, 5] rfl (by decide +kernel)) ggX8_allRead_X8_isRead
set_option maxRecDepth 20000 in
theorem ggX8_pan_X8_isPan : GoodIn wsX8_pan wsX8_isPan := goodIn_r _ [7, 1, 8, 9, 6, 10, 19, 20, 21, 22, 23, 24, 25, 26, 27, 28, 29, 30, 31, 32, 33, 34, 35, 36, 37] rfl (by decide +kernel)
set_option maxRecDepth 20000 in
theorem gX8_pan_X8_isPan : GoodIn wsX8_pan (wsV RX8 104 RX8 yX8_isPan wsX8_isPan) := goodIn_app (goodIn_r _ [3, 4, 5, 6] rfl (by decide +kernel)) ggX8_pan_X8_isPan
set_option maxRecDepth 20000 in
theorem ggX8_pan_X8_in : GoodIn wsX8_pan wsX8_in := goodIn_r _ [10] rfl (by decide +kernel)
set_option maxRecDepth 20000 in
theorem gX8_pan_X8_in : GoodIn wsX8_pan (va_wsS RX8 51 yX8_in wsX8_in) := goodIn_app (goodIn_r _ [8, 9, 6] rfl (by decide +kernel)) ggX8_pan_X8_in
set_option maxRecDepth 20000 in
theorem ggX8_pan_X8_full : GoodIn wsX8_pan wsX8_full := goodIn_r _ [14, 2, 19, 20, 21, 22, 23, 24, 25, 26, 27, 28, 29, 30, 31, 32, 33, 34, 35, 36, 37] rfl (by decide +kernel)
set_option maxRecDepth 20000 in
theorem gX8_pan_X8_full : GoodIn wsX8_pan (wsV RX8 98 RX8 yX8_full wsX8_full) := goodIn_app (goodIn_r _ [11, 12, 13, 6] rfl (by decide +kernel)) ggX8_pan_X8_full
set_option maxRecDepth 20000 in
theorem ggX8_pan_X8_isRead : GoodIn wsX8_pan wsX8_isRead := goodIn_r _ [18, 2, 1, 11, 12, 13, 6, 14, 19, 20, 21, 22, 23, 24, 25, 26, 27, 28, 29, 30, 31, 32, 33, 34, 35, 36, 37] rfl (by decide +kernel)
set_option maxRecDepth 20000 in
theorem gX8_pan_X8_isRead : GoodIn wsX8_pan (wsV RX8 101 RX8 yX8_isRead wsX8_isRead) := goodIn_app (goodIn_r _ [15, 16, 17, 6] rfl (by decide +kernel)) ggX8_pan_X8_isRead
set_option maxRecDepth 20000 in
theorem ggX8_holds_X8_isPan : GoodIn wsX8_holds wsX8_isPan := goodIn_r _ [6, 7, 8, 9, 5, 10, 11, 12, 13, 14, 15, 16, 17, 18, 19, 20, 21, 22, 23, 24, 25, 26, 27, 28, 29] rfl (by decide +kernel)
set_option maxRecDepth 20000 in
theorem gX8_holds_X8_isPan : GoodIn wsX8_holds (wsV RX8 104 RX8 yX8_isPan wsX8_isPan) := goodIn_app (goodIn_r _ [2, 3, 4, 5] rfl (by decide +kernel)) ggX8_holds_X8_isPan
set_option maxRecDepth 20000 in
theorem ggX8_all_X8_full : GoodIn wsX8_all wsX8_full := goodIn_r _ [6, 7, 8, 9, 10, 11, 12, 13, 14, 15, 16, 17, 18, 19, 20, 21, 22, 23, 24, 25, 26] rfl (by decide +kernel)
set_option maxRecDepth 20000 in
theorem gX8_all_X8_full : GoodIn wsX8_all (wsV RX8 98 RX8 yX8_full wsX8_full) := goodIn_app (goodIn_r _ [2, 3, 4, 5] rfl (by decide +kernel)) ggX8_all_X8_full
set_option maxRecDepth 20000 in
theorem ggX8_now_X8_all : GoodIn wsX8_now wsX8_all := goodIn_r _ [7, 8, 9, 10, 11, 6, 12, 1, 25, 26, 27, 28, 29, 30, 31, 32, 33, 34, 35, 36, 37, 38, 39, 40, 41, 42, 43] rfl (by decide +kernel)
set_option maxRecDepth 20000 in
theorem gX8_now_X8_all : GoodIn wsX8_now (wsV RX8 107 RX8 yX8_all wsX8_all) := goodIn_app (goodIn_r _ [3, 4, 5, 6] rfl (by decide +kernel)) ggX8_now_X8_all
set_option maxRecDepth 20000 in
theorem ggX8_now_X8_allRead : GoodIn wsX8_now wsX8_allRead := goodIn_r _ [16, 8, 17, 18, 19, 6, 20, 1, 9, 10, 11, 12, 25, 26, 27, 28, 29, 30, 31, 32, 33, 34, 35, 36, 37, 38, 39, 40, 41, 42, 43] rfl (by decide +kernel)
set_option maxRecDepth 20000 in
theorem gX8_now_X8_allRead : GoodIn wsX8_now (wsV RX8 111 RX8 yX8_allRead wsX8_allRead) := goodIn_app (goodIn_r _ [13, 14, 15, 6] rfl (by decide +kernel)) ggX8_now_X8_allRead
set_option maxRecDepth 20000 in
theorem ggX8_now_X8_wettest : GoodIn wsX8_now wsX8_wettest := goodIn_r _ [24, 8, 1, 25, 26, 27, 28, 29, 30, 31, 32, 33, 34, 35, 36, 37, 38, 39, 40, 41, 42, 43] rfl (by decide +kernel)
set_option maxRecDepth 20000 in
theorem gX8_now_X8_wettest : GoodIn wsX8_now (wsV RX8 114 RX8 yX8_wettest wsX8_wettest) := goodIn_app (goodIn_r _ [21, 22, 23, 6] rfl (by decide +kernel)) ggX8_now_X8_wettest
set_option maxRecDepth 20000 in
theorem ggX8_goes_X8_takes : GoodIn wsX8_goes wsX8_takes := goodIn_r _ [6, 1, 7, 8, 9, 10, 11, 12, 13, 14, 15, 16, 17, 18, 19, 20, 21, 22, 23, 24, 25, 26] rfl (by decide +kernel)
set_option maxRecDepth 20000 in
theorem gX8_goes_X8_takes : GoodIn wsX8_goes (wsV RX8 117 RX8 yX8_takes wsX8_takes) := goodIn_app (goodIn_r _ [2, 3, 4, 5] rfl (by decide +kernel)) ggX8_goes_X8_takes
set_option maxRecDepth 20000 in
theorem ggX8_uses_X8_isPan : GoodIn wsX8_uses wsX8_isPan := goodIn_r _ [5, 6, 7, 8, 4, 9, 29, 30, 31, 32, 33, 34, 35, 36, 37, 38, 39, 40, 41, 42, 43, 44, 45, 46, 47] rfl (by decide +kernel)
set_option maxRecDepth 20000 in
theorem gX8_uses_X8_isPan : GoodIn wsX8_uses (wsV RX8 104 RX8 yX8_isPan wsX8_isPan) := goodIn_app (goodIn_r _ [1, 2, 3, 4] rfl (by decide +kernel)) ggX8_uses_X8_isPan
set_option maxRecDepth 20000 in
theorem ggX8_uses_X8_in : GoodIn wsX8_uses wsX8_in := goodIn_r _ [9] rfl (by decide +kernel)
set_option maxRecDepth 20000 in
theorem gX8_uses_X8_in : GoodIn wsX8_uses (va_wsS RX8 51 yX8_in wsX8_in) := goodIn_app (goodIn_r _ [7, 8, 4] rfl (by decide +kernel)) ggX8_uses_X8_in
set_option maxRecDepth 20000 in
theorem ggX8_uses_X8_full : GoodIn wsX8_uses wsX8_full := goodIn_r _ [13, 14, 29, 30, 31, 32, 33, 34, 35, 36, 37, 38, 39, 40, 41, 42, 43, 44, 45, 46, 47] rfl (by decide +kernel)
set_option maxRecDepth 20000 in
theorem gX8_uses_X8_full : GoodIn wsX8_uses (wsV RX8 98 RX8 yX8_full wsX8_full) := goodIn_app (goodIn_r _ [10, 11, 12, 4] rfl (by decide +kernel)) ggX8_uses_X8_full
set_option maxRecDepth 20000 in
theorem ggX8_uses_X8_keeps : GoodIn wsX8_uses wsX8_keeps := goodIn_r _ [18, 19, 20, 14, 29, 30, 31, 32, 33, 34, 35, 36, 37, 38, 39, 40, 41, 42, 43, 44, 45, 46, 47] rfl (by decide +kernel)
set_option maxRecDepth 20000 in
theorem gX8_uses_X8_keeps : GoodIn wsX8_uses (wsV RX8 120 RX8 yX8_keeps wsX8_keeps) := goodIn_app (goodIn_r _ [15, 16, 17, 4] rfl (by decide +kernel)) ggX8_uses_X8_keeps
set_option maxRecDepth 20000 in
theorem ggX8_uses_X8_goes : GoodIn wsX8_uses wsX8_goes := goodIn_r _ [24, 14, 25, 26, 27, 4, 28, 6, 29, 30, 31, 32, 33, 34, 35, 36, 37, 38, 39, 40, 41, 42, 43, 44, 45, 46, 47] rfl (by decide +kernel)
set_option maxRecDepth 20000 in
theorem gX8_uses_X8_goes : GoodIn wsX8_uses (wsV RX8 123 RX8 yX8_goes wsX8_goes) := goodIn_app (goodIn_r _ [21, 22, 23, 4] rfl (by decide +kernel)) ggX8_uses_X8_goes
set_option maxRecDepth 20000 in
theorem ggX8_pours_X8_isPan : GoodIn wsX8_pours wsX8_isPan := goodIn_r _ [5, 6, 7, 8, 4, 9, 29, 30, 31, 32, 33, 34, 35, 36, 37, 38, 39, 40, 41, 42, 43, 44, 45, 46, 47] rfl (by decide +kernel)
set_option maxRecDepth 20000 in
theorem gX8_pours_X8_isPan : GoodIn wsX8_pours (wsV RX8 104 RX8 yX8_isPan wsX8_isPan) := goodIn_app (goodIn_r _ [1, 2, 3, 4] rfl (by decide +kernel)) ggX8_pours_X8_isPan
set_option maxRecDepth 20000 in
theorem ggX8_pours_X8_in : GoodIn wsX8_pours wsX8_in := goodIn_r _ [9] rfl (by decide +kernel)
set_option maxRecDepth 20000 in
theorem gX8_pours_X8_in : GoodIn wsX8_pours (va_wsS RX8 51 yX8_in wsX8_in) := goodIn_app (goodIn_r _ [7, 8, 4] rfl (by decide +kernel)) ggX8_pours_X8_in
set_option maxRecDepth 20000 in
theorem ggX8_pours_X8_full : GoodIn wsX8_pours wsX8_full := goodIn_r _ [13, 14, 29, 30, 31, 32, 33, 34, 35, 36, 37, 38, 39, 40, 41, 42, 43, 44, 45, 46, 47] rfl (by decide +kernel)
set_option maxRecDepth 20000 in
theorem gX8_pours_X8_full : GoodIn wsX8_pours (wsV RX8 98 RX8 yX8_full wsX8_full) := goodIn_app (goodIn_r _ [10, 11, 12, 4] rfl (by decide +kernel)) ggX8_pours_X8_full
set_option maxRecDepth 20000 in
theorem ggX8_pours_X8_keeps : GoodIn wsX8_pours wsX8_keeps := goodIn_r _ [18, 19, 20, 14, 29, 30, 31, 32, 33, 34, 35, 36, 37, 38, 39, 40, 41, 42, 43, 44, 45, 46, 47] rfl (by decide +kernel)
set_option maxRecDepth 20000 in
theorem gX8_pours_X8_keeps : GoodIn wsX8_pours (wsV RX8 120 RX8 yX8_keeps wsX8_keeps) := goodIn_app (goodIn_r _ [15, 16, 17, 4] rfl (by decide +kernel)) ggX8_pours_X8_keeps
set_option maxRecDepth 20000 in
theorem ggX8_pours_X8_goes : GoodIn wsX8_pours wsX8_goes := goodIn_r _ [24, 14, 25, 26, 27, 4, 28, 6, 29, 30, 31, 32, 33, 34, 35, 36, 37, 38, 39, 40, 41, 42, 43, 44, 45, 46, 47] rfl (by decide +kernel)
set_option maxRecDepth 20000 in
theorem gX8_pours_X8_goes : GoodIn wsX8_pours (wsV RX8 123 RX8 yX8_goes wsX8_goes) := goodIn_app (goodIn_r _ [21, 22, 23, 4] rfl (by decide +kernel)) ggX8_pours_X8_goes
set_option maxRecDepth 20000 in
theorem ggX8_springs_X8_goes : GoodIn wsX8_springs wsX8_goes := goodIn_r _ [7, 2, 8, 9, 10, 6, 11, 1, 12, 13, 14, 15, 16, 17, 18, 19, 20, 21, 22, 23, 24, 25, 26, 27, 28, 29, 30] rfl (by decide +kernel)
set_option maxRecDepth 20000 in
theorem gX8_springs_X8_goes : GoodIn wsX8_springs (wsV RX8 123 RX8 yX8_goes wsX8_goes) := goodIn_app (goodIn_r _ [3, 4, 5, 6] rfl (by decide +kernel)) ggX8_springs_X8_goes
set_option maxRecDepth 20000 in
theorem ggX8_spring_X8_keeps : GoodIn wsX8_spring wsX8_keeps := goodIn_r _ [6, 7, 8, 1, 22, 23, 24, 25, 26, 27, 28, 29, 30, 31, 32, 33, 34, 35, 36, 37, 38, 39, 40] rfl (by decide +kernel)
set_option maxRecDepth 20000 in
theorem gX8_spring_X8_keeps : GoodIn wsX8_spring (wsV RX8 120 RX8 yX8_keeps wsX8_keeps) := goodIn_app (goodIn_r _ [2, 3, 4, 5] rfl (by decide +kernel)) ggX8_spring_X8_keeps
set_option maxRecDepth 20000 in
theorem ggX8_spring_X8_springs : GoodIn wsX8_spring wsX8_springs := goodIn_r _ [12, 13, 1, 14, 15, 16, 5, 17, 18, 19, 20, 21, 22, 23, 24, 25, 26, 27, 28, 29, 30, 31, 32, 33, 34, 35, 36, 37, 38, 39, 40] rfl (by decide +kernel)
set_option maxRecDepth 20000 in
theorem gX8_spring_X8_springs : GoodIn wsX8_spring (wsV RX8 127 RX8 yX8_springs wsX8_springs) := goodIn_app (goodIn_r _ [9, 10, 11, 5] rfl (by decide +kernel)) ggX8_spring_X8_springs
set_option maxRecDepth 20000 in
theorem ggX8_splits_X8_isPan : GoodIn wsX8_splits wsX8_isPan := goodIn_r _ [5, 6, 7, 8, 4, 9, 29, 30, 31, 32, 33, 34, 35, 36, 37, 38, 39, 40, 41, 42, 43, 44, 45, 46, 47] rfl (by decide +kernel)
set_option maxRecDepth 20000 in
theorem gX8_splits_X8_isPan : GoodIn wsX8_splits (wsV RX8 104 RX8 yX8_isPan wsX8_isPan) := goodIn_app (goodIn_r _ [1, 2, 3, 4] rfl (by decide +kernel)) ggX8_splits_X8_isPan
set_option maxRecDepth 20000 in
theorem ggX8_splits_X8_full : GoodIn wsX8_splits wsX8_full := goodIn_r _ [13, 14, 29, 30, 31, 32, 33, 34, 35, 36, 37, 38, 39, 40, 41, 42, 43, 44, 45, 46, 47] rfl (by decide +kernel)
set_option maxRecDepth 20000 in
theorem gX8_splits_X8_full : GoodIn wsX8_splits (wsV RX8 98 RX8 yX8_full wsX8_full) := goodIn_app (goodIn_r _ [10, 11, 12, 4] rfl (by decide +kernel)) ggX8_splits_X8_full
set_option maxRecDepth 20000 in
theorem ggX8_splits_X8_keeps : GoodIn wsX8_splits wsX8_keeps := goodIn_r _ [18, 19, 20, 14, 29, 30, 31, 32, 33, 34, 35, 36, 37, 38, 39, 40, 41, 42, 43, 44, 45, 46, 47] rfl (by decide +kernel)
set_option maxRecDepth 20000 in
theorem gX8_splits_X8_keeps : GoodIn wsX8_splits (wsV RX8 120 RX8 yX8_keeps wsX8_keeps) := goodIn_app (goodIn_r _ [15, 16, 17, 4] rfl (by decide +kernel)) ggX8_splits_X8_keeps
set_option maxRecDepth 20000 in
theorem ggX8_splits_X8_goes : GoodIn wsX8_splits wsX8_goes := goodIn_r _ [24, 14, 25, 26, 27, 4, 28, 6, 29, 30, 31, 32, 33, 34, 35, 36, 37, 38, 39, 40, 41, 42, 43, 44, 45, 46, 47] rfl (by decide +kernel)
set_option maxRecDepth 20000 in
theorem gX8_splits_X8_goes : GoodIn wsX8_splits (wsV RX8 123 RX8 yX8_goes wsX8_goes) := goodIn_app (goodIn_r _ [21, 22, 23, 4] rfl (by decide +kernel)) ggX8_splits_X8_goes
set_option maxRecDepth 20000 in
theorem ggX8_lasts_X8_isPan : GoodIn wsX8_lasts wsX8_isPan := goodIn_r _ [5, 6, 7, 8, 4, 9, 40, 41, 42, 43, 44, 45, 46, 47, 48, 49, 50, 51, 52, 53, 54, 55, 56, 57, 58] rfl (by decide +kernel)
set_option maxRecDepth 20000 in
theorem gX8_lasts_X8_isPan : GoodIn wsX8_lasts (wsV RX8 104 RX8 yX8_isPan wsX8_isPan) := goodIn_app (goodIn_r _ [1, 2, 3, 4] rfl (by decide +kernel)) ggX8_lasts_X8_isPan
set_option maxRecDepth 20000 in
theorem ggX8_lasts_X8_remembers : GoodIn wsX8_lasts wsX8_remembers := goodIn_r _ [13, 14, 15, 40, 41, 42, 43, 44, 45, 46, 47, 48, 49, 50, 51, 52, 53, 54, 55, 56, 57, 58] rfl (by decide +kernel)
set_option maxRecDepth 20000 in
theorem gX8_lasts_X8_remembers : GoodIn wsX8_lasts (wsV RX8 130 RX8 yX8_remembers wsX8_remembers) := goodIn_app (goodIn_r _ [10, 11, 12, 4] rfl (by decide +kernel)) ggX8_lasts_X8_remembers
set_option maxRecDepth 20000 in
theorem ggX8_lasts_X8_isRead : GoodIn wsX8_lasts wsX8_isRead := goodIn_r _ [19, 15, 6, 20, 21, 22, 4, 23, 40, 41, 42, 43, 44, 45, 46, 47, 48, 49, 50, 51, 52, 53, 54, 55, 56, 57, 58] rfl (by decide +kernel)
set_option maxRecDepth 20000 in
theorem gX8_lasts_X8_isRead : GoodIn wsX8_lasts (wsV RX8 101 RX8 yX8_isRead wsX8_isRead) := goodIn_app (goodIn_r _ [16, 17, 18, 4] rfl (by decide +kernel)) ggX8_lasts_X8_isRead
set_option maxRecDepth 20000 in
theorem ggX8_lasts_X8_springs : GoodIn wsX8_lasts wsX8_springs := goodIn_r _ [27, 6, 15, 28, 29, 30, 4, 31, 32, 33, 34, 35, 40, 41, 42, 43, 44, 45, 46, 47, 48, 49, 50, 51, 52, 53, 54, 55, 56, 57, 58] rfl (by decide +kernel)
set_option maxRecDepth 20000 in
theorem gX8_lasts_X8_springs : GoodIn wsX8_lasts (wsV RX8 127 RX8 yX8_springs wsX8_springs) := goodIn_app (goodIn_r _ [24, 25, 26, 4] rfl (by decide +kernel)) ggX8_lasts_X8_springs
set_option maxRecDepth 20000 in
theorem ggX8_lasts_X8_lets : GoodIn wsX8_lasts wsX8_lets := goodIn_r _ [39, 15, 14, 40, 41, 42, 43, 44, 45, 46, 47, 48, 49, 50, 51, 52, 53, 54, 55, 56, 57, 58] rfl (by decide +kernel)
set_option maxRecDepth 20000 in
theorem gX8_lasts_X8_lets : GoodIn wsX8_lasts (wsV RX8 133 RX8 yX8_lets wsX8_lets) := goodIn_app (goodIn_r _ [36, 37, 38, 4] rfl (by decide +kernel)) ggX8_lasts_X8_lets
set_option maxRecDepth 20000 in
theorem ggX8_inSprings_X8_in : GoodIn wsX8_inSprings wsX8_in := goodIn_r _ [4] rfl (by decide +kernel)
set_option maxRecDepth 20000 in
theorem gX8_inSprings_X8_in : GoodIn wsX8_inSprings (va_wsS RX8 51 yX8_in wsX8_in) := goodIn_app (goodIn_r _ [1, 2, 3] rfl (by decide +kernel)) ggX8_inSprings_X8_in
set_option maxRecDepth 20000 in
theorem ggX8_inSprings_X8_isPan : GoodIn wsX8_inSprings wsX8_isPan := goodIn_r _ [8, 9, 1, 2, 3, 4, 47, 48, 49, 50, 51, 52, 53, 54, 55, 56, 57, 58, 59, 60, 61, 62, 63, 64, 65] rfl (by decide +kernel)
set_option maxRecDepth 20000 in
theorem gX8_inSprings_X8_isPan : GoodIn wsX8_inSprings (wsV RX8 104 RX8 yX8_isPan wsX8_isPan) := goodIn_app (goodIn_r _ [5, 6, 7, 3] rfl (by decide +kernel)) ggX8_inSprings_X8_isPan
set_option maxRecDepth 20000 in
theorem ggX8_inSprings_X8_remembers : GoodIn wsX8_inSprings wsX8_remembers := goodIn_r _ [13, 14, 15, 47, 48, 49, 50, 51, 52, 53, 54, 55, 56, 57, 58, 59, 60, 61, 62, 63, 64, 65] rfl (by decide +kernel)
set_option maxRecDepth 20000 in
theorem gX8_inSprings_X8_remembers : GoodIn wsX8_inSprings (wsV RX8 130 RX8 yX8_remembers wsX8_remembers) := goodIn_app (goodIn_r _ [10, 11, 12, 3] rfl (by decide +kernel)) ggX8_inSprings_X8_remembers
set_option maxRecDepth 20000 in
theorem ggX8_inSprings_X8_springs : GoodIn wsX8_inSprings wsX8_springs := goodIn_r _ [19, 9, 15, 20, 21, 22, 3, 23, 24, 25, 26, 27, 47, 48, 49, 50, 51, 52, 53, 54, 55, 56, 57, 58, 59, 60, 61, 62, 63, 64, 65] rfl (by decide +kernel)
set_option maxRecDepth 20000 in
theorem gX8_inSprings_X8_springs : GoodIn wsX8_inSprings (wsV RX8 127 RX8 yX8_springs wsX8_springs) := goodIn_app (goodIn_r _ [16, 17, 18, 3] rfl (by decide +kernel)) ggX8_inSprings_X8_springs
set_option maxRecDepth 20000 in
theorem ggX8_inSprings_X8_allRead : GoodIn wsX8_inSprings wsX8_allRead := goodIn_r _ [31, 9, 32, 33, 34, 3, 35, 15, 36, 37, 38, 39, 47, 48, 49, 50, 51, 52, 53, 54, 55, 56, 57, 58, 59, 60, 61, 62, 63, 64, 65] rfl (by decide +kernel)
set_option maxRecDepth 20000 in
theorem gX8_inSprings_X8_allRead : GoodIn wsX8_inSprings (wsV RX8 111 RX8 yX8_allRead wsX8_allRead) := goodIn_app (goodIn_r _ [28, 29, 30, 3] rfl (by decide +kernel)) ggX8_inSprings_X8_allRead
set_option maxRecDepth 20000 in
theorem ggX8_inSprings_X8_ones : GoodIn wsX8_inSprings wsX8_ones := goodIn_r _ [42] rfl (by decide +kernel)
set_option maxRecDepth 20000 in
theorem gX8_inSprings_X8_ones : GoodIn wsX8_inSprings (va_wsS RX8 136 yX8_ones wsX8_ones) := goodIn_app (goodIn_r _ [40, 41, 3] rfl (by decide +kernel)) ggX8_inSprings_X8_ones
set_option maxRecDepth 20000 in
theorem ggX8_inSprings_X8_full : GoodIn wsX8_inSprings wsX8_full := goodIn_r _ [39, 15, 47, 48, 49, 50, 51, 52, 53, 54, 55, 56, 57, 58, 59, 60, 61, 62, 63, 64, 65] rfl (by decide +kernel)
set_option maxRecDepth 20000 in
theorem gX8_inSprings_X8_full : GoodIn wsX8_inSprings (wsV RX8 98 RX8 yX8_full wsX8_full) := goodIn_app (goodIn_r _ [36, 37, 38, 3] rfl (by decide +kernel)) ggX8_inSprings_X8_full
set_option maxRecDepth 20000 in
theorem ggX8_inSprings_X8_lets : GoodIn wsX8_inSprings wsX8_lets := goodIn_r _ [46, 15, 14, 47, 48, 49, 50, 51, 52, 53, 54, 55, 56, 57, 58, 59, 60, 61, 62, 63, 64, 65] rfl (by decide +kernel)
set_option maxRecDepth 20000 in
theorem gX8_inSprings_X8_lets : GoodIn wsX8_inSprings (wsV RX8 133 RX8 yX8_lets wsX8_lets) := goodIn_app (goodIn_r _ [43, 44, 45, 3] rfl (by decide +kernel)) ggX8_inSprings_X8_lets
set_option maxRecDepth 20000 in
theorem ggX8_fire_X8_in : GoodIn wsX8_fire wsX8_in := goodIn_r _ [5] rfl (by decide +kernel)
set_option maxRecDepth 20000 in
theorem gX8_fire_X8_in : GoodIn wsX8_fire (va_wsS RX8 51 yX8_in wsX8_in) := goodIn_app (goodIn_r _ [2, 3, 4] rfl (by decide +kernel)) ggX8_fire_X8_in
set_option maxRecDepth 20000 in
theorem ggX8_fire_X8_full : GoodIn wsX8_fire wsX8_full := goodIn_r _ [9, 10, 22, 23, 24, 25, 26, 27, 28, 29, 30, 31, 32, 33, 34, 35, 36, 37, 38, 39, 40] rfl (by decide +kernel)
set_option maxRecDepth 20000 in
theorem gX8_fire_X8_full : GoodIn wsX8_fire (wsV RX8 98 RX8 yX8_full wsX8_full) := goodIn_app (goodIn_r _ [6, 7, 8, 4] rfl (by decide +kernel)) ggX8_fire_X8_full
set_option maxRecDepth 20000 in
theorem ggX8_fire_X8_allRead : GoodIn wsX8_fire wsX8_allRead := goodIn_r _ [14, 1, 15, 16, 17, 4, 18, 10, 6, 7, 8, 9, 22, 23, 24, 25, 26, 27, 28, 29, 30, 31, 32, 33, 34, 35, 36, 37, 38, 39, 40] rfl (by decide +kernel)
set_option maxRecDepth 20000 in
theorem gX8_fire_X8_allRead : GoodIn wsX8_fire (wsV RX8 111 RX8 yX8_allRead wsX8_allRead) := goodIn_app (goodIn_r _ [11, 12, 13, 4] rfl (by decide +kernel)) ggX8_fire_X8_allRead
set_option maxRecDepth 20000 in
theorem ggX8_fire_X8_ones : GoodIn wsX8_fire wsX8_ones := goodIn_r _ [21] rfl (by decide +kernel)
set_option maxRecDepth 20000 in
theorem gX8_fire_X8_ones : GoodIn wsX8_fire (va_wsS RX8 136 yX8_ones wsX8_ones) := goodIn_app (goodIn_r _ [19, 20, 4] rfl (by decide +kernel)) ggX8_fire_X8_ones
set_option maxRecDepth 20000 in
theorem ggX8_spoil_X8_isPan : GoodIn wsX8_spoil wsX8_isPan := goodIn_r _ [7, 2, 8, 9, 6, 10, 19, 20, 21, 22, 23, 24, 25, 26, 27, 28, 29, 30, 31, 32, 33, 34, 35, 36, 37] rfl (by decide +kernel)
set_option maxRecDepth 20000 in
theorem gX8_spoil_X8_isPan : GoodIn wsX8_spoil (wsV RX8 104 RX8 yX8_isPan wsX8_isPan) := goodIn_app (goodIn_r _ [3, 4, 5, 6] rfl (by decide +kernel)) ggX8_spoil_X8_isPan
set_option maxRecDepth 20000 in
theorem ggX8_spoil_X8_isRead : GoodIn wsX8_spoil wsX8_isRead := goodIn_r _ [14, 1, 2, 15, 16, 17, 6, 18, 19, 20, 21, 22, 23, 24, 25, 26, 27, 28, 29, 30, 31, 32, 33, 34, 35, 36, 37] rfl (by decide +kernel)
set_option maxRecDepth 20000 in
theorem gX8_spoil_X8_isRead : GoodIn wsX8_spoil (wsV RX8 101 RX8 yX8_isRead wsX8_isRead) := goodIn_app (goodIn_r _ [11, 12, 13, 6] rfl (by decide +kernel)) ggX8_spoil_X8_isRead
set_option maxRecDepth 20000 in
theorem ggX8_mix_X8_in : GoodIn wsX8_mix wsX8_in := goodIn_r _ [5] rfl (by decide +kernel)
set_option maxRecDepth 20000 in
theorem gX8_mix_X8_in : GoodIn wsX8_mix (va_wsS RX8 51 yX8_in wsX8_in) := goodIn_app (goodIn_r _ [2, 3, 4] rfl (by decide +kernel)) ggX8_mix_X8_in
set_option maxRecDepth 20000 in
theorem ggX8_levels_X8_in : GoodIn wsX8_levels wsX8_in := goodIn_r _ [7] rfl (by decide +kernel)
set_option maxRecDepth 20000 in
theorem gX8_levels_X8_in : GoodIn wsX8_levels (va_wsS RX8 51 yX8_in wsX8_in) := goodIn_app (goodIn_r _ [4, 5, 6] rfl (by decide +kernel)) ggX8_levels_X8_in
set_option maxRecDepth 20000 in
theorem ggX8_levels_X8_isPan : GoodIn wsX8_levels wsX8_isPan := goodIn_r _ [11, 12, 4, 5, 6, 7, 13, 14, 15, 16, 17, 18, 19, 20, 21, 22, 23, 24, 25, 26, 27, 28, 29, 30, 31] rfl (by decide +kernel)
set_option maxRecDepth 20000 in
theorem gX8_levels_X8_isPan : GoodIn wsX8_levels (wsV RX8 104 RX8 yX8_isPan wsX8_isPan) := goodIn_app (goodIn_r _ [8, 9, 10, 6] rfl (by decide +kernel)) ggX8_levels_X8_isPan
set_option maxRecDepth 20000 in
theorem ggX8_isSo_X8_full : GoodIn wsX8_isSo wsX8_full := goodIn_r _ [9, 10, 11, 12, 13, 14, 15, 16, 17, 18, 19, 20, 21, 22, 23, 24, 25, 26, 27, 28, 29] rfl (by decide +kernel)
set_option maxRecDepth 20000 in
theorem gX8_isSo_X8_full : GoodIn wsX8_isSo (wsV RX8 98 RX8 yX8_full wsX8_full) := goodIn_app (goodIn_r _ [5, 6, 7, 8] rfl (by decide +kernel)) ggX8_isSo_X8_full
set_option maxRecDepth 20000 in
theorem ggX8_theft_X8_in : GoodIn wsX8_theft wsX8_in := goodIn_r _ [5] rfl (by decide +kernel)
set_option maxRecDepth 20000 in
theorem gX8_theft_X8_in : GoodIn wsX8_theft (va_wsS RX8 51 yX8_in wsX8_in) := goodIn_app (goodIn_r _ [2, 3, 4] rfl (by decide +kernel)) ggX8_theft_X8_in
set_option maxRecDepth 20000 in
theorem ggX8_theft_X8_full : GoodIn wsX8_theft wsX8_full := goodIn_r _ [9, 10, 35, 36, 37, 38, 39, 40, 41, 42, 43, 44, 45, 46, 47, 48, 49, 50, 51, 52, 53] rfl (by decide +kernel)
set_option maxRecDepth 20000 in
theorem gX8_theft_X8_full : GoodIn wsX8_theft (wsV RX8 98 RX8 yX8_full wsX8_full) := goodIn_app (goodIn_r _ [6, 7, 8, 4] rfl (by decide +kernel)) ggX8_theft_X8_full
set_option maxRecDepth 20000 in
theorem ggX8_theft_X8_remembers : GoodIn wsX8_theft wsX8_remembers := goodIn_r _ [14, 15, 10, 35, 36, 37, 38, 39, 40, 41, 42, 43, 44, 45, 46, 47, 48, 49, 50, 51, 52, 53] rfl (by decide +kernel)
set_option maxRecDepth 20000 in
theorem gX8_theft_X8_remembers : GoodIn wsX8_theft (wsV RX8 130 RX8 yX8_remembers wsX8_remembers) := goodIn_app (goodIn_r _ [11, 12, 13, 4] rfl (by decide +kernel)) ggX8_theft_X8_remembers
set_option maxRecDepth 20000 in
theorem ggX8_theft_X8_goes : GoodIn wsX8_theft wsX8_goes := goodIn_r _ [19, 10, 20, 21, 22, 4, 23, 1, 35, 36, 37, 38, 39, 40, 41, 42, 43, 44, 45, 46, 47, 48, 49, 50, 51, 52, 53] rfl (by decide +kernel)
set_option maxRecDepth 20000 in
theorem gX8_theft_X8_goes : GoodIn wsX8_theft (wsV RX8 123 RX8 yX8_goes wsX8_goes) := goodIn_app (goodIn_r _ [16, 17, 18, 4] rfl (by decide +kernel)) ggX8_theft_X8_goes
set_option maxRecDepth 20000 in
theorem ggX8_theft_X8_isSo : GoodIn wsX8_theft wsX8_isSo := goodIn_r _ [27, 28, 29, 1, 30, 6, 7, 8, 4, 9, 10, 35, 36, 37, 38, 39, 40, 41, 42, 43, 44, 45, 46, 47, 48, 49, 50, 51, 52, 53] rfl (by decide +kernel)
set_option maxRecDepth 20000 in
theorem gX8_theft_X8_isSo : GoodIn wsX8_theft (wsV RX8 139 RX8 yX8_isSo wsX8_isSo) := goodIn_app (goodIn_r _ [24, 25, 26, 4] rfl (by decide +kernel)) ggX8_theft_X8_isSo
set_option maxRecDepth 20000 in
theorem ggX8_theft_X8_lets : GoodIn wsX8_theft wsX8_lets := goodIn_r _ [34, 10, 15, 35, 36, 37, 38, 39, 40, 41, 42, 43, 44, 45, 46, 47, 48, 49, 50, 51, 52, 53] rfl (by decide +kernel)
set_option maxRecDepth 20000 in
theorem gX8_theft_X8_lets : GoodIn wsX8_theft (wsV RX8 133 RX8 yX8_lets wsX8_lets) := goodIn_app (goodIn_r _ [31, 32, 33, 4] rfl (by decide +kernel)) ggX8_theft_X8_lets
set_option maxRecDepth 20000 in
theorem ggX8_stand_X8_full : GoodIn wsX8_stand wsX8_full := goodIn_r _ [6, 7, 12, 13, 14, 15, 16, 17, 18, 19, 20, 21, 22, 23, 24, 25, 26, 27, 28, 29, 30] rfl (by decide +kernel)
set_option maxRecDepth 20000 in
theorem gX8_stand_X8_full : GoodIn wsX8_stand (wsV RX8 98 RX8 yX8_full wsX8_full) := goodIn_app (goodIn_r _ [2, 3, 4, 5] rfl (by decide +kernel)) ggX8_stand_X8_full
set_option maxRecDepth 20000 in
theorem ggX8_stand_X8_isHail : GoodIn wsX8_stand wsX8_isHail := goodIn_r _ [11, 1, 12, 13, 14, 15, 16, 17, 18, 19, 20, 21, 22, 23, 24, 25, 26, 27, 28, 29, 30] rfl (by decide +kernel)
set_option maxRecDepth 20000 in
theorem gX8_stand_X8_isHail : GoodIn wsX8_stand (wsV RX8 142 RX8 yX8_isHail wsX8_isHail) := goodIn_app (goodIn_r _ [8, 9, 10, 5] rfl (by decide +kernel)) ggX8_stand_X8_isHail
set_option maxRecDepth 20000 in
theorem ggX8_shelves_X8_full : GoodIn wsX8_shelves wsX8_full := goodIn_r _ [7, 8, 17, 18, 19, 20, 21, 22, 23, 24, 25, 26, 27, 28, 29, 30, 31, 32, 33, 34, 35] rfl (by decide +kernel)
set_option maxRecDepth 20000 in
theorem gX8_shelves_X8_full : GoodIn wsX8_shelves (wsV RX8 98 RX8 yX8_full wsX8_full) := goodIn_app (goodIn_r _ [3, 4, 5, 6] rfl (by decide +kernel)) ggX8_shelves_X8_full
set_option maxRecDepth 20000 in
theorem ggX8_shelves_X8_stand : GoodIn wsX8_shelves wsX8_stand := goodIn_r _ [12, 1, 3, 4, 5, 6, 7, 8, 13, 14, 15, 16, 17, 18, 19, 20, 21, 22, 23, 24, 25, 26, 27, 28, 29, 30, 31, 32, 33, 34, 35] rfl (by decide +kernel)
set_option maxRecDepth 20000 in
theorem gX8_shelves_X8_stand : GoodIn wsX8_shelves (wsV RX8 145 RX8 yX8_stand wsX8_stand) := goodIn_app (goodIn_r _ [9, 10, 11, 6] rfl (by decide +kernel)) ggX8_shelves_X8_stand
set_option maxRecDepth 20000 in
theorem ggX8_beside_X8_isPan : GoodIn wsX8_beside wsX8_isPan := goodIn_r _ [6, 1, 7, 8, 5, 9, 26, 27, 28, 29, 30, 31, 32, 33, 34, 35, 36, 37, 38, 39, 40, 41, 42, 43, 44] rfl (by decide +kernel)
set_option maxRecDepth 20000 in
theorem gX8_beside_X8_isPan : GoodIn wsX8_beside (wsV RX8 104 RX8 yX8_isPan wsX8_isPan) := goodIn_app (goodIn_r _ [2, 3, 4, 5] rfl (by decide +kernel)) ggX8_beside_X8_isPan
set_option maxRecDepth 20000 in
theorem ggX8_beside_X8_stand : GoodIn wsX8_beside wsX8_stand := goodIn_r _ [13, 1, 14, 15, 16, 5, 17, 18, 19, 20, 21, 22, 26, 27, 28, 29, 30, 31, 32, 33, 34, 35, 36, 37, 38, 39, 40, 41, 42, 43, 44] rfl (by decide +kernel)
set_option maxRecDepth 20000 in
theorem gX8_beside_X8_stand : GoodIn wsX8_beside (wsV RX8 145 RX8 yX8_stand wsX8_stand) := goodIn_app (goodIn_r _ [10, 11, 12, 5] rfl (by decide +kernel)) ggX8_beside_X8_stand
set_option maxRecDepth 20000 in
theorem ggX8_beside_X8_full : GoodIn wsX8_beside wsX8_full := goodIn_r _ [17, 18, 26, 27, 28, 29, 30, 31, 32, 33, 34, 35, 36, 37, 38, 39, 40, 41, 42, 43, 44] rfl (by decide +kernel)
set_option maxRecDepth 20000 in
theorem gX8_beside_X8_full : GoodIn wsX8_beside (wsV RX8 98 RX8 yX8_full wsX8_full) := goodIn_app (goodIn_r _ [14, 15, 16, 5] rfl (by decide +kernel)) ggX8_beside_X8_full
set_option maxRecDepth 20000 in
theorem ggX8_beside_X8_ones : GoodIn wsX8_beside wsX8_ones := goodIn_r _ [25] rfl (by decide +kernel)
set_option maxRecDepth 20000 in
theorem gX8_beside_X8_ones : GoodIn wsX8_beside (va_wsS RX8 136 yX8_ones wsX8_ones) := goodIn_app (goodIn_r _ [23, 24, 5] rfl (by decide +kernel)) ggX8_beside_X8_ones
set_option maxRecDepth 20000 in
theorem ggX8_odds_X8_in : GoodIn wsX8_odds wsX8_in := goodIn_r _ [4] rfl (by decide +kernel)
set_option maxRecDepth 20000 in
theorem gX8_odds_X8_in : GoodIn wsX8_odds (va_wsS RX8 51 yX8_in wsX8_in) := goodIn_app (goodIn_r _ [1, 2, 3] rfl (by decide +kernel)) ggX8_odds_X8_in
set_option maxRecDepth 20000 in
theorem ggX8_odds_X8_allRead : GoodIn wsX8_odds wsX8_allRead := goodIn_r _ [8, 9, 10, 11, 12, 3, 13, 14, 15, 16, 17, 18, 22, 23, 24, 25, 26, 27, 28, 29, 30, 31, 32, 33, 34, 35, 36, 37, 38, 39, 40] rfl (by decide +kernel)
set_option maxRecDepth 20000 in
theorem gX8_odds_X8_allRead : GoodIn wsX8_odds (wsV RX8 111 RX8 yX8_allRead wsX8_allRead) := goodIn_app (goodIn_r _ [5, 6, 7, 3] rfl (by decide +kernel)) ggX8_odds_X8_allRead
set_option maxRecDepth 20000 in
theorem ggX8_odds_X8_ones : GoodIn wsX8_odds wsX8_ones := goodIn_r _ [21] rfl (by decide +kernel)
set_option maxRecDepth 20000 in
theorem gX8_odds_X8_ones : GoodIn wsX8_odds (va_wsS RX8 136 yX8_ones wsX8_ones) := goodIn_app (goodIn_r _ [19, 20, 3] rfl (by decide +kernel)) ggX8_odds_X8_ones
set_option maxRecDepth 20000 in
theorem ggX8_rate_X8_in : GoodIn wsX8_rate wsX8_in := goodIn_r _ [13] rfl (by decide +kernel)
set_option maxRecDepth 20000 in
theorem gX8_rate_X8_in : GoodIn wsX8_rate (va_wsS RX8 51 yX8_in wsX8_in) := goodIn_app (goodIn_r _ [10, 11, 12] rfl (by decide +kernel)) ggX8_rate_X8_in
set_option maxRecDepth 20000 in
theorem ggX8_rate_X8_isPan : GoodIn wsX8_rate wsX8_isPan := goodIn_r _ [17, 8, 10, 11, 12, 13, 22, 23, 24, 25, 26, 27, 28, 29, 30, 31, 32, 33, 34, 35, 36, 37, 38, 39, 40] rfl (by decide +kernel)
set_option maxRecDepth 20000 in
theorem gX8_rate_X8_isPan : GoodIn wsX8_rate (wsV RX8 104 RX8 yX8_isPan wsX8_isPan) := goodIn_app (goodIn_r _ [14, 15, 16, 12] rfl (by decide +kernel)) ggX8_rate_X8_isPan
set_option maxRecDepth 20000 in
theorem ggX8_rate_X8_full : GoodIn wsX8_rate wsX8_full := goodIn_r _ [21, 9, 22, 23, 24, 25, 26, 27, 28, 29, 30, 31, 32, 33, 34, 35, 36, 37, 38, 39, 40] rfl (by decide +kernel)
set_option maxRecDepth 20000 in
theorem gX8_rate_X8_full : GoodIn wsX8_rate (wsV RX8 98 RX8 yX8_full wsX8_full) := goodIn_app (goodIn_r _ [18, 19, 20, 12] rfl (by decide +kernel)) ggX8_rate_X8_full
set_option maxRecDepth 20000 in
theorem ggX8_keep_X8_in : GoodIn wsX8_keep wsX8_in := goodIn_r _ [7] rfl (by decide +kernel)
set_option maxRecDepth 20000 in
theorem gX8_keep_X8_in : GoodIn wsX8_keep (va_wsS RX8 51 yX8_in wsX8_in) := goodIn_app (goodIn_r _ [4, 5, 6] rfl (by decide +kernel)) ggX8_keep_X8_in
set_option maxRecDepth 20000 in
theorem ggX8_back_X8_in : GoodIn wsX8_back wsX8_in := goodIn_r _ [8] rfl (by decide +kernel)
set_option maxRecDepth 20000 in
theorem gX8_back_X8_in : GoodIn wsX8_back (va_wsS RX8 51 yX8_in wsX8_in) := goodIn_app (goodIn_r _ [5, 6, 7] rfl (by decide +kernel)) ggX8_back_X8_in
end
section
theorem dX0_init_0 : decode cX0_init 0 = .ok (.aload_n 0, 1) := by decide +kernel
theorem dX0_init_1 : decode cX0_init 1 = .ok (.invokespecial 3, 3) := by decide +kernel
theorem dX0_init_4 : decode cX0_init 4 = .ok (.aload_n 0, 1) := by decide +kernel
theorem dX0_init_5 : decode cX0_init 5 = .ok (.bipush 8, 2) := by decide +kernel
theorem dX0_init_7 : decode cX0_init 7 = .ok (.newarray .int, 2) := by decide +kernel
theorem dX0_init_9 : decode cX0_init 9 = .ok (.putfield 9, 3) := by decide +kernel
theorem dX0_init_12 : decode cX0_init 12 = .ok (.return_, 1) := by decide +kernel
theorem dX0_reckon_0 : decode cX0_reckon 0 = .ok (.aload_n 0, 1) := by decide +kernel
theorem dX0_reckon_1 : decode cX0_reckon 1 = .ok (.iconst 1, 1) := by decide +kernel
theorem dX0_reckon_2 : decode cX0_reckon 2 = .ok (.putfield 15, 3) := by decide +kernel
theorem dX0_reckon_5 : decode cX0_reckon 5 = .ok (.iconst 0, 1) := by decide +kernel
theorem dX0_reckon_6 : decode cX0_reckon 6 = .ok (.istore 4, 2) := by decide +kernel
theorem dX0_reckon_8 : decode cX0_reckon 8 = .ok (.iload 4, 2) := by decide +kernel
theorem dX0_reckon_10 : decode cX0_reckon 10 = .ok (.bipush 7, 2) := by decide +kernel
theorem dX0_reckon_12 : decode cX0_reckon 12 = .ok (.if_icmp .gt 26, 3) := by decide +kernel
theorem dX0_reckon_15 : decode cX0_reckon 15 = .ok (.aload_n 0, 1) := by decide +kernel
theorem dX0_reckon_16 : decode cX0_reckon 16 = .ok (.getfield 9, 3) := by decide +kernel
theorem dX0_reckon_19 : decode cX0_reckon 19 = .ok (.iload 4, 2) := by decide +kernel
theorem dX0_reckon_21 : decode cX0_reckon 21 = .ok (.iload 4, 2) := by decide +kernel
theorem dX0_reckon_23 : decode cX0_reckon 23 = .ok (.ifCond .ne 7, 3) := by decide +kernel
theorem dX0_reckon_26 : decode cX0_reckon 26 = .ok (.iconst 1, 1) := by decide +kernel
theorem dX0_reckon_27 : decode cX0_reckon 27 = .ok (.goto 4, 3) := by decide +kernel
theorem dX0_reckon_30 : decode cX0_reckon 30 = .ok (.iconst 0, 1) := by decide +kernel
theorem dX0_reckon_31 : decode cX0_reckon 31 = .ok (.iastore, 1) := by decide +kernel
theorem dX0_reckon_32 : decode cX0_reckon 32 = .ok (.iinc 4 1, 3) := by decide +kernel
theorem dX0_reckon_35 : decode cX0_reckon 35 = .ok (.goto (-27), 3) := by decide +kernel
theorem dX0_reckon_38 : decode cX0_reckon 38 = .ok (.iconst 0, 1) := by decide +kernel
theorem dX0_reckon_39 : decode cX0_reckon 39 = .ok (.istore 4, 2) := by decide +kernel
theorem dX0_reckon_41 : decode cX0_reckon 41 = .ok (.iload 4, 2) := by decide +kernel
theorem dX0_reckon_43 : decode cX0_reckon 43 = .ok (.iload_n 3, 1) := by decide +kernel
theorem dX0_reckon_44 : decode cX0_reckon 44 = .ok (.if_icmp .ge 25, 3) := by decide +kernel
theorem dX0_reckon_47 : decode cX0_reckon 47 = .ok (.aload_n 0, 1) := by decide +kernel
theorem dX0_reckon_48 : decode cX0_reckon 48 = .ok (.dup, 1) := by decide +kernel
theorem dX0_reckon_49 : decode cX0_reckon 49 = .ok (.getfield 15, 3) := by decide +kernel
theorem dX0_reckon_52 : decode cX0_reckon 52 = .ok (.bipush 10, 2) := by decide +kernel
theorem dX0_reckon_54 : decode cX0_reckon 54 = .ok (.imul, 1) := by decide +kernel
theorem dX0_reckon_55 : decode cX0_reckon 55 = .ok (.putfield 15, 3) := by decide +kernel
theorem dX0_reckon_58 : decode cX0_reckon 58 = .ok (.aload_n 0, 1) := by decide +kernel
theorem dX0_reckon_59 : decode cX0_reckon 59 = .ok (.iload_n 1, 1) := by decide +kernel
theorem dX0_reckon_60 : decode cX0_reckon 60 = .ok (.invokevirtual 19, 3) := by decide +kernel
theorem dX0_reckon_63 : decode cX0_reckon 63 = .ok (.iinc 4 1, 3) := by decide +kernel
theorem dX0_reckon_66 : decode cX0_reckon 66 = .ok (.goto (-25), 3) := by decide +kernel
theorem dX0_reckon_69 : decode cX0_reckon 69 = .ok (.aload_n 0, 1) := by decide +kernel
theorem dX0_reckon_70 : decode cX0_reckon 70 = .ok (.iconst 0, 1) := by decide +kernel
theorem dX0_reckon_71 : decode cX0_reckon 71 = .ok (.putfield 23, 3) := by decide +kernel
theorem dX0_reckon_74 : decode cX0_reckon 74 = .ok (.iconst 0, 1) := by decide +kernel
theorem dX0_reckon_75 : decode cX0_reckon 75 = .ok (.iload_n 2, 1) := by decide +kernel
theorem dX0_reckon_76 : decode cX0_reckon 76 = .ok (.invokestatic 26, 3) := by decide +kernel
theorem dX0_reckon_79 : decode cX0_reckon 79 = .ok (.istore 4, 2) := by decide +kernel
theorem dX0_reckon_81 : decode cX0_reckon 81 = .ok (.iload 4, 2) := by decide +kernel
theorem dX0_reckon_83 : decode cX0_reckon 83 = .ok (.bipush 7, 2) := by decide +kernel
theorem dX0_reckon_85 : decode cX0_reckon 85 = .ok (.if_icmp .gt 25, 3) := by decide +kernel
theorem dX0_reckon_88 : decode cX0_reckon 88 = .ok (.aload_n 0, 1) := by decide +kernel
theorem dX0_reckon_89 : decode cX0_reckon 89 = .ok (.dup, 1) := by decide +kernel
theorem dX0_reckon_90 : decode cX0_reckon 90 = .ok (.getfield 23, 3) := by decide +kernel
theorem dX0_reckon_93 : decode cX0_reckon 93 = .ok (.aload_n 0, 1) := by decide +kernel
theorem dX0_reckon_94 : decode cX0_reckon 94 = .ok (.getfield 9, 3) := by decide +kernel
theorem dX0_reckon_97 : decode cX0_reckon 97 = .ok (.iload 4, 2) := by decide +kernel
theorem dX0_reckon_99 : decode cX0_reckon 99 = .ok (.iaload, 1) := by decide +kernel
theorem dX0_reckon_100 : decode cX0_reckon 100 = .ok (.iadd, 1) := by decide +kernel
theorem dX0_reckon_101 : decode cX0_reckon 101 = .ok (.putfield 23, 3) := by decide +kernel
theorem dX0_reckon_104 : decode cX0_reckon 104 = .ok (.iinc 4 1, 3) := by decide +kernel
theorem dX0_reckon_107 : decode cX0_reckon 107 = .ok (.goto (-26), 3) := by decide +kernel
theorem dX0_reckon_110 : decode cX0_reckon 110 = .ok (.aload_n 0, 1) := by decide +kernel
theorem dX0_reckon_111 : decode cX0_reckon 111 = .ok (.iload_n 3, 1) := by decide +kernel
theorem dX0_reckon_112 : decode cX0_reckon 112 = .ok (.invokevirtual 32, 3) := by decide +kernel
theorem dX0_reckon_115 : decode cX0_reckon 115 = .ok (.return_, 1) := by decide +kernel
theorem dX0_addPan_0 : decode cX0_addPan 0 = .ok (.bipush 7, 2) := by decide +kernel
theorem dX0_addPan_2 : decode cX0_addPan 2 = .ok (.istore_n 2, 1) := by decide +kernel
theorem dX0_addPan_3 : decode cX0_addPan 3 = .ok (.iload_n 2, 1) := by decide +kernel
theorem dX0_addPan_4 : decode cX0_addPan 4 = .ok (.ifCond .le 37, 3) := by decide +kernel
theorem dX0_addPan_7 : decode cX0_addPan 7 = .ok (.aload_n 0, 1) := by decide +kernel
theorem dX0_addPan_8 : decode cX0_addPan 8 = .ok (.getfield 9, 3) := by decide +kernel
theorem dX0_addPan_11 : decode cX0_addPan 11 = .ok (.iload_n 2, 1) := by decide +kernel
theorem dX0_addPan_12 : decode cX0_addPan 12 = .ok (.aload_n 0, 1) := by decide +kernel
theorem dX0_addPan_13 : decode cX0_addPan 13 = .ok (.getfield 9, 3) := by decide +kernel
theorem dX0_addPan_16 : decode cX0_addPan 16 = .ok (.iload_n 2, 1) := by decide +kernel
theorem dX0_addPan_17 : decode cX0_addPan 17 = .ok (.iaload, 1) := by decide +kernel
theorem dX0_addPan_18 : decode cX0_addPan 18 = .ok (.iload_n 1, 1) := by decide +kernel
theorem dX0_addPan_19 : decode cX0_addPan 19 = .ok (.imul, 1) := by decide +kernel
theorem dX0_addPan_20 : decode cX0_addPan 20 = .ok (.aload_n 0, 1) := by decide +kernel
theorem dX0_addPan_21 : decode cX0_addPan 21 = .ok (.getfield 9, 3) := by decide +kernel
theorem dX0_addPan_24 : decode cX0_addPan 24 = .ok (.iload_n 2, 1) := by decide +kernel
theorem dX0_addPan_25 : decode cX0_addPan 25 = .ok (.iconst 1, 1) := by decide +kernel
theorem dX0_addPan_26 : decode cX0_addPan 26 = .ok (.isub, 1) := by decide +kernel
theorem dX0_addPan_27 : decode cX0_addPan 27 = .ok (.iaload, 1) := by decide +kernel
theorem dX0_addPan_28 : decode cX0_addPan 28 = .ok (.bipush 10, 2) := by decide +kernel
theorem dX0_addPan_30 : decode cX0_addPan 30 = .ok (.iload_n 1, 1) := by decide +kernel
theorem dX0_addPan_31 : decode cX0_addPan 31 = .ok (.isub, 1) := by decide +kernel
theorem dX0_addPan_32 : decode cX0_addPan 32 = .ok (.imul, 1) := by decide +kernel
theorem dX0_addPan_33 : decode cX0_addPan 33 = .ok (.iadd, 1) := by decide +kernel
theorem dX0_addPan_34 : decode cX0_addPan 34 = .ok (.iastore, 1) := by decide +kernel
theorem dX0_addPan_35 : decode cX0_addPan 35 = .ok (.iinc 2 (-1), 3) := by decide +kernel
theorem dX0_addPan_38 : decode cX0_addPan 38 = .ok (.goto (-35), 3) := by decide +kernel
theorem dX0_addPan_41 : decode cX0_addPan 41 = .ok (.aload_n 0, 1) := by decide +kernel
theorem dX0_addPan_42 : decode cX0_addPan 42 = .ok (.getfield 9, 3) := by decide +kernel
theorem dX0_addPan_45 : decode cX0_addPan 45 = .ok (.iconst 0, 1) := by decide +kernel
theorem dX0_addPan_46 : decode cX0_addPan 46 = .ok (.dup2, 1) := by decide +kernel
theorem dX0_addPan_47 : decode cX0_addPan 47 = .ok (.iaload, 1) := by decide +kernel
theorem dX0_addPan_48 : decode cX0_addPan 48 = .ok (.iload_n 1, 1) := by decide +kernel
theorem dX0_addPan_49 : decode cX0_addPan 49 = .ok (.imul, 1) := by decide +kernel
theorem dX0_addPan_50 : decode cX0_addPan 50 = .ok (.iastore, 1) := by decide +kernel
theorem dX0_addPan_51 : decode cX0_addPan 51 = .ok (.return_, 1) := by decide +kernel
theorem dX0_reduce_0 : decode cX0_reduce 0 = .ok (.iconst 0, 1) := by decide +kernel
theorem dX0_reduce_1 : decode cX0_reduce 1 = .ok (.istore_n 2, 1) := by decide +kernel
theorem dX0_reduce_2 : decode cX0_reduce 2 = .ok (.iload_n 2, 1) := by decide +kernel
theorem dX0_reduce_3 : decode cX0_reduce 3 = .ok (.iload_n 1, 1) := by decide +kernel
theorem dX0_reduce_4 : decode cX0_reduce 4 = .ok (.if_icmp .ge 85, 3) := by decide +kernel
theorem dX0_reduce_7 : decode cX0_reduce 7 = .ok (.aload_n 0, 1) := by decide +kernel
theorem dX0_reduce_8 : decode cX0_reduce 8 = .ok (.getfield 23, 3) := by decide +kernel
theorem dX0_reduce_11 : decode cX0_reduce 11 = .ok (.iconst 2, 1) := by decide +kernel
theorem dX0_reduce_12 : decode cX0_reduce 12 = .ok (.irem, 1) := by decide +kernel
theorem dX0_reduce_13 : decode cX0_reduce 13 = .ok (.ifCond .ne 32, 3) := by decide +kernel
theorem dX0_reduce_16 : decode cX0_reduce 16 = .ok (.aload_n 0, 1) := by decide +kernel
theorem dX0_reduce_17 : decode cX0_reduce 17 = .ok (.getfield 15, 3) := by decide +kernel
theorem dX0_reduce_20 : decode cX0_reduce 20 = .ok (.iconst 2, 1) := by decide +kernel
theorem dX0_reduce_21 : decode cX0_reduce 21 = .ok (.irem, 1) := by decide +kernel
theorem dX0_reduce_22 : decode cX0_reduce 22 = .ok (.ifCond .ne 23, 3) := by decide +kernel
theorem dX0_reduce_25 : decode cX0_reduce 25 = .ok (.aload_n 0, 1) := by decide +kernel
theorem dX0_reduce_26 : decode cX0_reduce 26 = .ok (.dup, 1) := by decide +kernel
theorem dX0_reduce_27 : decode cX0_reduce 27 = .ok (.getfield 23, 3) := by decide +kernel
theorem dX0_reduce_30 : decode cX0_reduce 30 = .ok (.iconst 2, 1) := by decide +kernel
theorem dX0_reduce_31 : decode cX0_reduce 31 = .ok (.idiv, 1) := by decide +kernel
theorem dX0_reduce_32 : decode cX0_reduce 32 = .ok (.putfield 23, 3) := by decide +kernel
theorem dX0_reduce_35 : decode cX0_reduce 35 = .ok (.aload_n 0, 1) := by decide +kernel
theorem dX0_reduce_36 : decode cX0_reduce 36 = .ok (.dup, 1) := by decide +kernel
theorem dX0_reduce_37 : decode cX0_reduce 37 = .ok (.getfield 15, 3) := by decide +kernel
theorem dX0_reduce_40 : decode cX0_reduce 40 = .ok (.iconst 2, 1) := by decide +kernel
theorem dX0_reduce_41 : decode cX0_reduce 41 = .ok (.idiv, 1) := by decide +kernel
theorem dX0_reduce_42 : decode cX0_reduce 42 = .ok (.putfield 15, 3) := by decide +kernel
theorem dX0_reduce_45 : decode cX0_reduce 45 = .ok (.aload_n 0, 1) := by decide +kernel
theorem dX0_reduce_46 : decode cX0_reduce 46 = .ok (.getfield 23, 3) := by decide +kernel
theorem dX0_reduce_49 : decode cX0_reduce 49 = .ok (.iconst 5, 1) := by decide +kernel
theorem dX0_reduce_50 : decode cX0_reduce 50 = .ok (.irem, 1) := by decide +kernel
theorem dX0_reduce_51 : decode cX0_reduce 51 = .ok (.ifCond .ne 32, 3) := by decide +kernel
theorem dX0_reduce_54 : decode cX0_reduce 54 = .ok (.aload_n 0, 1) := by decide +kernel
theorem dX0_reduce_55 : decode cX0_reduce 55 = .ok (.getfield 15, 3) := by decide +kernel
theorem dX0_reduce_58 : decode cX0_reduce 58 = .ok (.iconst 5, 1) := by decide +kernel
theorem dX0_reduce_59 : decode cX0_reduce 59 = .ok (.irem, 1) := by decide +kernel
theorem dX0_reduce_60 : decode cX0_reduce 60 = .ok (.ifCond .ne 23, 3) := by decide +kernel
theorem dX0_reduce_63 : decode cX0_reduce 63 = .ok (.aload_n 0, 1) := by decide +kernel
theorem dX0_reduce_64 : decode cX0_reduce 64 = .ok (.dup, 1) := by decide +kernel
theorem dX0_reduce_65 : decode cX0_reduce 65 = .ok (.getfield 23, 3) := by decide +kernel
theorem dX0_reduce_68 : decode cX0_reduce 68 = .ok (.iconst 5, 1) := by decide +kernel
theorem dX0_reduce_69 : decode cX0_reduce 69 = .ok (.idiv, 1) := by decide +kernel
theorem dX0_reduce_70 : decode cX0_reduce 70 = .ok (.putfield 23, 3) := by decide +kernel
theorem dX0_reduce_73 : decode cX0_reduce 73 = .ok (.aload_n 0, 1) := by decide +kernel
theorem dX0_reduce_74 : decode cX0_reduce 74 = .ok (.dup, 1) := by decide +kernel
theorem dX0_reduce_75 : decode cX0_reduce 75 = .ok (.getfield 15, 3) := by decide +kernel
theorem dX0_reduce_78 : decode cX0_reduce 78 = .ok (.iconst 5, 1) := by decide +kernel
theorem dX0_reduce_79 : decode cX0_reduce 79 = .ok (.idiv, 1) := by decide +kernel
theorem dX0_reduce_80 : decode cX0_reduce 80 = .ok (.putfield 15, 3) := by decide +kernel
theorem dX0_reduce_83 : decode cX0_reduce 83 = .ok (.iinc 2 1, 3) := by decide +kernel
theorem dX0_reduce_86 : decode cX0_reduce 86 = .ok (.goto (-84), 3) := by decide +kernel
theorem dX0_reduce_89 : decode cX0_reduce 89 = .ok (.return_, 1) := by decide +kernel
theorem dX1_init_0 : decode cX1_init 0 = .ok (.aload_n 0, 1) := by decide +kernel
theorem dX1_init_1 : decode cX1_init 1 = .ok (.invokespecial 3, 3) := by decide +kernel
theorem dX1_init_4 : decode cX1_init 4 = .ok (.aload_n 0, 1) := by decide +kernel
theorem dX1_init_5 : decode cX1_init 5 = .ok (.bipush 10, 2) := by decide +kernel
theorem dX1_init_7 : decode cX1_init 7 = .ok (.anewarray 9, 3) := by decide +kernel
theorem dX1_init_10 : decode cX1_init 10 = .ok (.putfield 11, 3) := by decide +kernel
theorem dX1_init_13 : decode cX1_init 13 = .ok (.iconst 0, 1) := by decide +kernel
theorem dX1_init_14 : decode cX1_init 14 = .ok (.istore_n 2, 1) := by decide +kernel
theorem dX1_init_15 : decode cX1_init 15 = .ok (.iload_n 2, 1) := by decide +kernel
theorem dX1_init_16 : decode cX1_init 16 = .ok (.bipush 10, 2) := by decide +kernel
theorem dX1_init_18 : decode cX1_init 18 = .ok (.if_icmp .ge 23, 3) := by decide +kernel
theorem dX1_init_21 : decode cX1_init 21 = .ok (.aload_n 0, 1) := by decide +kernel
theorem dX1_init_22 : decode cX1_init 22 = .ok (.getfield 11, 3) := by decide +kernel
theorem dX1_init_25 : decode cX1_init 25 = .ok (.iload_n 2, 1) := by decide +kernel
theorem dX1_init_26 : decode cX1_init 26 = .ok (.new 9, 3) := by decide +kernel
theorem dX1_init_29 : decode cX1_init 29 = .ok (.dup, 1) := by decide +kernel
theorem dX1_init_30 : decode cX1_init 30 = .ok (.aload_n 1, 1) := by decide +kernel
theorem dX1_init_31 : decode cX1_init 31 = .ok (.invokespecial 17, 3) := by decide +kernel
theorem dX1_init_34 : decode cX1_init 34 = .ok (.aastore, 1) := by decide +kernel
theorem dX1_init_35 : decode cX1_init 35 = .ok (.iinc 2 1, 3) := by decide +kernel
theorem dX1_init_38 : decode cX1_init 38 = .ok (.goto (-23), 3) := by decide +kernel
theorem dX1_init_41 : decode cX1_init 41 = .ok (.return_, 1) := by decide +kernel
theorem dX1_remember_0 : decode cX1_remember 0 = .ok (.aload_n 0, 1) := by decide +kernel
theorem dX1_remember_1 : decode cX1_remember 1 = .ok (.getfield 11, 3) := by decide +kernel
theorem dX1_remember_4 : decode cX1_remember 4 = .ok (.aload_n 0, 1) := by decide +kernel
theorem dX1_remember_5 : decode cX1_remember 5 = .ok (.getfield 20, 3) := by decide +kernel
theorem dX1_remember_8 : decode cX1_remember 8 = .ok (.aaload, 1) := by decide +kernel
theorem dX1_remember_9 : decode cX1_remember 9 = .ok (.aload_n 1, 1) := by decide +kernel
theorem dX1_remember_10 : decode cX1_remember 10 = .ok (.invokevirtual 24, 3) := by decide +kernel
theorem dX1_remember_13 : decode cX1_remember 13 = .ok (.aload_n 0, 1) := by decide +kernel
theorem dX1_remember_14 : decode cX1_remember 14 = .ok (.aload_n 0, 1) := by decide +kernel
theorem dX1_remember_15 : decode cX1_remember 15 = .ok (.getfield 20, 3) := by decide +kernel
theorem dX1_remember_18 : decode cX1_remember 18 = .ok (.iconst 1, 1) := by decide +kernel
theorem dX1_remember_19 : decode cX1_remember 19 = .ok (.iadd, 1) := by decide +kernel
theorem dX1_remember_20 : decode cX1_remember 20 = .ok (.bipush 10, 2) := by decide +kernel
theorem dX1_remember_22 : decode cX1_remember 22 = .ok (.if_icmp .ge 12, 3) := by decide +kernel
theorem dX1_remember_25 : decode cX1_remember 25 = .ok (.aload_n 0, 1) := by decide +kernel
theorem dX1_remember_26 : decode cX1_remember 26 = .ok (.getfield 20, 3) := by decide +kernel
theorem dX1_remember_29 : decode cX1_remember 29 = .ok (.iconst 1, 1) := by decide +kernel
theorem dX1_remember_30 : decode cX1_remember 30 = .ok (.iadd, 1) := by decide +kernel
theorem dX1_remember_31 : decode cX1_remember 31 = .ok (.goto 4, 3) := by decide +kernel
theorem dX1_remember_34 : decode cX1_remember 34 = .ok (.iconst 0, 1) := by decide +kernel
theorem dX1_remember_35 : decode cX1_remember 35 = .ok (.putfield 20, 3) := by decide +kernel
theorem dX1_remember_38 : decode cX1_remember 38 = .ok (.aload_n 0, 1) := by decide +kernel
theorem dX1_remember_39 : decode cX1_remember 39 = .ok (.bipush 10, 2) := by decide +kernel
theorem dX1_remember_41 : decode cX1_remember 41 = .ok (.aload_n 0, 1) := by decide +kernel
theorem dX1_remember_42 : decode cX1_remember 42 = .ok (.getfield 28, 3) := by decide +kernel
theorem dX1_remember_45 : decode cX1_remember 45 = .ok (.iconst 1, 1) := by decide +kernel
theorem dX1_remember_46 : decode cX1_remember 46 = .ok (.iadd, 1) := by decide +kernel
theorem dX1_remember_47 : decode cX1_remember 47 = .ok (.invokestatic 31, 3) := by decide +kernel
theorem dX1_remember_50 : decode cX1_remember 50 = .ok (.putfield 28, 3) := by decide +kernel
theorem dX1_remember_53 : decode cX1_remember 53 = .ok (.return_, 1) := by decide +kernel
theorem dX1_restore_0 : decode cX1_restore 0 = .ok (.aload_n 0, 1) := by decide +kernel
theorem dX1_restore_1 : decode cX1_restore 1 = .ok (.aload_n 0, 1) := by decide +kernel
theorem dX1_restore_2 : decode cX1_restore 2 = .ok (.getfield 20, 3) := by decide +kernel
theorem dX1_restore_5 : decode cX1_restore 5 = .ok (.ifCond .le 12, 3) := by decide +kernel
theorem dX1_restore_8 : decode cX1_restore 8 = .ok (.aload_n 0, 1) := by decide +kernel
theorem dX1_restore_9 : decode cX1_restore 9 = .ok (.getfield 20, 3) := by decide +kernel
theorem dX1_restore_12 : decode cX1_restore 12 = .ok (.iconst 1, 1) := by decide +kernel
theorem dX1_restore_13 : decode cX1_restore 13 = .ok (.isub, 1) := by decide +kernel
theorem dX1_restore_14 : decode cX1_restore 14 = .ok (.goto 5, 3) := by decide +kernel
theorem dX1_restore_17 : decode cX1_restore 17 = .ok (.bipush 9, 2) := by decide +kernel
theorem dX1_restore_19 : decode cX1_restore 19 = .ok (.putfield 20, 3) := by decide +kernel
theorem dX1_restore_22 : decode cX1_restore 22 = .ok (.aload_n 1, 1) := by decide +kernel
theorem dX1_restore_23 : decode cX1_restore 23 = .ok (.aload_n 0, 1) := by decide +kernel
theorem dX1_restore_24 : decode cX1_restore 24 = .ok (.getfield 11, 3) := by decide +kernel
theorem dX1_restore_27 : decode cX1_restore 27 = .ok (.aload_n 0, 1) := by decide +kernel
theorem dX1_restore_28 : decode cX1_restore 28 = .ok (.getfield 20, 3) := by decide +kernel
theorem dX1_restore_31 : decode cX1_restore 31 = .ok (.aaload, 1) := by decide +kernel
theorem dX1_restore_32 : decode cX1_restore 32 = .ok (.invokevirtual 24, 3) := by decide +kernel
theorem dX1_restore_35 : decode cX1_restore 35 = .ok (.aload_n 0, 1) := by decide +kernel
theorem dX1_restore_36 : decode cX1_restore 36 = .ok (.dup, 1) := by decide +kernel
theorem dX1_restore_37 : decode cX1_restore 37 = .ok (.getfield 28, 3) := by decide +kernel
theorem dX1_restore_40 : decode cX1_restore 40 = .ok (.iconst 1, 1) := by decide +kernel
theorem dX1_restore_41 : decode cX1_restore 41 = .ok (.isub, 1) := by decide +kernel
theorem dX1_restore_42 : decode cX1_restore 42 = .ok (.putfield 28, 3) := by decide +kernel
theorem dX1_restore_45 : decode cX1_restore 45 = .ok (.return_, 1) := by decide +kernel
theorem dX2_init_0 : decode cX2_init 0 = .ok (.aload_n 0, 1) := by decide +kernel
theorem dX2_init_1 : decode cX2_init 1 = .ok (.invokespecial 3, 3) := by decide +kernel
theorem dX2_init_4 : decode cX2_init 4 = .ok (.aload_n 0, 1) := by decide +kernel
theorem dX2_init_5 : decode cX2_init 5 = .ok (.bipush 7, 2) := by decide +kernel
theorem dX2_init_7 : decode cX2_init 7 = .ok (.newarray .int, 2) := by decide +kernel
theorem dX2_init_9 : decode cX2_init 9 = .ok (.putfield 9, 3) := by decide +kernel
theorem dX2_init_12 : decode cX2_init 12 = .ok (.aload_n 0, 1) := by decide +kernel
theorem dX2_init_13 : decode cX2_init 13 = .ok (.bipush 7, 2) := by decide +kernel
theorem dX2_init_15 : decode cX2_init 15 = .ok (.newarray .int, 2) := by decide +kernel
theorem dX2_init_17 : decode cX2_init 17 = .ok (.putfield 15, 3) := by decide +kernel
theorem dX2_init_20 : decode cX2_init 20 = .ok (.aload_n 0, 1) := by decide +kernel
theorem dX2_init_21 : decode cX2_init 21 = .ok (.bipush 7, 2) := by decide +kernel
theorem dX2_init_23 : decode cX2_init 23 = .ok (.newarray .int, 2) := by decide +kernel
theorem dX2_init_25 : decode cX2_init 25 = .ok (.putfield 18, 3) := by decide +kernel
theorem dX2_init_28 : decode cX2_init 28 = .ok (.aload_n 0, 1) := by decide +kernel
theorem dX2_init_29 : decode cX2_init 29 = .ok (.bipush 7, 2) := by decide +kernel
theorem dX2_init_31 : decode cX2_init 31 = .ok (.newarray .int, 2) := by decide +kernel
theorem dX2_init_33 : decode cX2_init 33 = .ok (.putfield 21, 3) := by decide +kernel
theorem dX2_init_36 : decode cX2_init 36 = .ok (.aload_n 0, 1) := by decide +kernel
theorem dX2_init_37 : decode cX2_init 37 = .ok (.bipush 7, 2) := by decide +kernel
theorem dX2_init_39 : decode cX2_init 39 = .ok (.newarray .int, 2) := by decide +kernel
theorem dX2_init_41 : decode cX2_init 41 = .ok (.putfield 24, 3) := by decide +kernel
theorem dX2_init_44 : decode cX2_init 44 = .ok (.aload_n 0, 1) := by decide +kernel
theorem dX2_init_45 : decode cX2_init 45 = .ok (.invokevirtual 27, 3) := by decide +kernel
theorem dX2_init_48 : decode cX2_init 48 = .ok (.return_, 1) := by decide +kernel
theorem dX2_empty_0 : decode cX2_empty 0 = .ok (.aload_n 0, 1) := by decide +kernel
theorem dX2_empty_1 : decode cX2_empty 1 = .ok (.iconst 0, 1) := by decide +kernel
theorem dX2_empty_2 : decode cX2_empty 2 = .ok (.putfield 30, 3) := by decide +kernel
theorem dX2_empty_5 : decode cX2_empty 5 = .ok (.aload_n 0, 1) := by decide +kernel
theorem dX2_empty_6 : decode cX2_empty 6 = .ok (.iconst 5, 1) := by decide +kernel
theorem dX2_empty_7 : decode cX2_empty 7 = .ok (.putfield 34, 3) := by decide +kernel
theorem dX2_empty_10 : decode cX2_empty 10 = .ok (.aload_n 0, 1) := by decide +kernel
theorem dX2_empty_11 : decode cX2_empty 11 = .ok (.bipush 60, 2) := by decide +kernel
theorem dX2_empty_13 : decode cX2_empty 13 = .ok (.putfield 37, 3) := by decide +kernel
theorem dX2_empty_16 : decode cX2_empty 16 = .ok (.return_, 1) := by decide +kernel
theorem dX2_has_0 : decode cX2_has 0 = .ok (.iload_n 1, 1) := by decide +kernel
theorem dX2_has_1 : decode cX2_has 1 = .ok (.ifCond .lt 15, 3) := by decide +kernel
theorem dX2_has_4 : decode cX2_has 4 = .ok (.iload_n 1, 1) := by decide +kernel
theorem dX2_has_5 : decode cX2_has 5 = .ok (.aload_n 0, 1) := by decide +kernel
theorem dX2_has_6 : decode cX2_has 6 = .ok (.getfield 30, 3) := by decide +kernel
theorem dX2_has_9 : decode cX2_has 9 = .ok (.if_icmp .ge 7, 3) := by decide +kernel
theorem dX2_has_12 : decode cX2_has 12 = .ok (.iconst 1, 1) := by decide +kernel
theorem dX2_has_13 : decode cX2_has 13 = .ok (.goto 4, 3) := by decide +kernel
theorem dX2_has_16 : decode cX2_has 16 = .ok (.iconst 0, 1) := by decide +kernel
theorem dX2_has_17 : decode cX2_has 17 = .ok (.ireturn, 1) := by decide +kernel
theorem dX2_append_0 : decode cX2_append 0 = .ok (.aload_n 0, 1) := by decide +kernel
theorem dX2_append_1 : decode cX2_append 1 = .ok (.getfield 30, 3) := by decide +kernel
theorem dX2_append_4 : decode cX2_append 4 = .ok (.bipush 7, 2) := by decide +kernel
theorem dX2_append_6 : decode cX2_append 6 = .ok (.if_icmp .lt 5, 3) := by decide +kernel
theorem dX2_append_9 : decode cX2_append 9 = .ok (.iconst 0, 1) := by decide +kernel
theorem dX2_append_10 : decode cX2_append 10 = .ok (.ireturn, 1) := by decide +kernel
theorem dX2_append_11 : decode cX2_append 11 = .ok (.aload_n 0, 1) := by decide +kernel
theorem dX2_append_12 : decode cX2_append 12 = .ok (.getfield 9, 3) := by decide +kernel
theorem dX2_append_15 : decode cX2_append 15 = .ok (.aload_n 0, 1) := by decide +kernel
theorem dX2_append_16 : decode cX2_append 16 = .ok (.getfield 30, 3) := by decide +kernel
theorem dX2_append_19 : decode cX2_append 19 = .ok (.iload_n 1, 1) := by decide +kernel
theorem dX2_append_20 : decode cX2_append 20 = .ok (.iastore, 1) := by decide +kernel
theorem dX2_append_21 : decode cX2_append 21 = .ok (.aload_n 0, 1) := by decide +kernel
theorem dX2_append_22 : decode cX2_append 22 = .ok (.getfield 15, 3) := by decide +kernel
theorem dX2_append_25 : decode cX2_append 25 = .ok (.aload_n 0, 1) := by decide +kernel
theorem dX2_append_26 : decode cX2_append 26 = .ok (.getfield 30, 3) := by decide +kernel
theorem dX2_append_29 : decode cX2_append 29 = .ok (.iload_n 2, 1) := by decide +kernel
theorem dX2_append_30 : decode cX2_append 30 = .ok (.iastore, 1) := by decide +kernel
theorem dX2_append_31 : decode cX2_append 31 = .ok (.aload_n 0, 1) := by decide +kernel
theorem dX2_append_32 : decode cX2_append 32 = .ok (.getfield 18, 3) := by decide +kernel
theorem dX2_append_35 : decode cX2_append 35 = .ok (.aload_n 0, 1) := by decide +kernel
theorem dX2_append_36 : decode cX2_append 36 = .ok (.getfield 30, 3) := by decide +kernel
theorem dX2_append_39 : decode cX2_append 39 = .ok (.iload_n 3, 1) := by decide +kernel
theorem dX2_append_40 : decode cX2_append 40 = .ok (.iastore, 1) := by decide +kernel
theorem dX2_append_41 : decode cX2_append 41 = .ok (.aload_n 0, 1) := by decide +kernel
theorem dX2_append_42 : decode cX2_append 42 = .ok (.getfield 21, 3) := by decide +kernel
theorem dX2_append_45 : decode cX2_append 45 = .ok (.aload_n 0, 1) := by decide +kernel
theorem dX2_append_46 : decode cX2_append 46 = .ok (.getfield 30, 3) := by decide +kernel
theorem dX2_append_49 : decode cX2_append 49 = .ok (.iload 4, 2) := by decide +kernel
theorem dX2_append_51 : decode cX2_append 51 = .ok (.iastore, 1) := by decide +kernel
theorem dX2_append_52 : decode cX2_append 52 = .ok (.aload_n 0, 1) := by decide +kernel
theorem dX2_append_53 : decode cX2_append 53 = .ok (.getfield 30, 3) := by decide +kernel
theorem dX2_append_56 : decode cX2_append 56 = .ok (.istore 5, 2) := by decide +kernel
theorem dX2_append_58 : decode cX2_append 58 = .ok (.iload 5, 2) := by decide +kernel
theorem dX2_append_60 : decode cX2_append 60 = .ok (.ifCond .le 43, 3) := by decide +kernel
theorem dX2_append_63 : decode cX2_append 63 = .ok (.aload_n 0, 1) := by decide +kernel
theorem dX2_append_64 : decode cX2_append 64 = .ok (.getfield 9, 3) := by decide +kernel
theorem dX2_append_67 : decode cX2_append 67 = .ok (.aload_n 0, 1) := by decide +kernel
theorem dX2_append_68 : decode cX2_append 68 = .ok (.getfield 24, 3) := by decide +kernel
theorem dX2_append_71 : decode cX2_append 71 = .ok (.iload 5, 2) := by decide +kernel
theorem dX2_append_73 : decode cX2_append 73 = .ok (.iconst 1, 1) := by decide +kernel
theorem dX2_append_74 : decode cX2_append 74 = .ok (.isub, 1) := by decide +kernel
theorem dX2_append_75 : decode cX2_append 75 = .ok (.iaload, 1) := by decide +kernel
theorem dX2_append_76 : decode cX2_append 76 = .ok (.iaload, 1) := by decide +kernel
theorem dX2_append_77 : decode cX2_append 77 = .ok (.iload_n 1, 1) := by decide +kernel
theorem dX2_append_78 : decode cX2_append 78 = .ok (.if_icmp .le 25, 3) := by decide +kernel
theorem dX2_append_81 : decode cX2_append 81 = .ok (.aload_n 0, 1) := by decide +kernel
theorem dX2_append_82 : decode cX2_append 82 = .ok (.getfield 24, 3) := by decide +kernel
theorem dX2_append_85 : decode cX2_append 85 = .ok (.iload 5, 2) := by decide +kernel
theorem dX2_append_87 : decode cX2_append 87 = .ok (.aload_n 0, 1) := by decide +kernel
theorem dX2_append_88 : decode cX2_append 88 = .ok (.getfield 24, 3) := by decide +kernel
theorem dX2_append_91 : decode cX2_append 91 = .ok (.iload 5, 2) := by decide +kernel
theorem dX2_append_93 : decode cX2_append 93 = .ok (.iconst 1, 1) := by decide +kernel
theorem dX2_append_94 : decode cX2_append 94 = .ok (.isub, 1) := by decide +kernel
theorem dX2_append_95 : decode cX2_append 95 = .ok (.iaload, 1) := by decide +kernel
theorem dX2_append_96 : decode cX2_append 96 = .ok (.iastore, 1) := by decide +kernel
theorem dX2_append_97 : decode cX2_append 97 = .ok (.iinc 5 (-1), 3) := by decide +kernel
theorem dX2_append_100 : decode cX2_append 100 = .ok (.goto (-42), 3) := by decide +kernel
theorem dX2_append_103 : decode cX2_append 103 = .ok (.aload_n 0, 1) := by decide +kernel
theorem dX2_append_104 : decode cX2_append 104 = .ok (.getfield 24, 3) := by decide +kernel
theorem dX2_append_107 : decode cX2_append 107 = .ok (.iload 5, 2) := by decide +kernel
theorem dX2_append_109 : decode cX2_append 109 = .ok (.aload_n 0, 1) := by decide +kernel
theorem dX2_append_110 : decode cX2_append 110 = .ok (.getfield 30, 3) := by decide +kernel
theorem dX2_append_113 : decode cX2_append 113 = .ok (.iastore, 1) := by decide +kernel
theorem dX2_append_114 : decode cX2_append 114 = .ok (.aload_n 0, 1) := by decide +kernel
theorem dX2_append_115 : decode cX2_append 115 = .ok (.dup, 1) := by decide +kernel
theorem dX2_append_116 : decode cX2_append 116 = .ok (.getfield 30, 3) := by decide +kernel
theorem dX2_append_119 : decode cX2_append 119 = .ok (.iconst 1, 1) := by decide +kernel
theorem dX2_append_120 : decode cX2_append 120 = .ok (.iadd, 1) := by decide +kernel
theorem dX2_append_121 : decode cX2_append 121 = .ok (.putfield 30, 3) := by decide +kernel
theorem dX2_append_124 : decode cX2_append 124 = .ok (.iconst 1, 1) := by decide +kernel
theorem dX2_append_125 : decode cX2_append 125 = .ok (.ireturn, 1) := by decide +kernel
theorem dX2_become_0 : decode cX2_become 0 = .ok (.aload_n 0, 1) := by decide +kernel
theorem dX2_become_1 : decode cX2_become 1 = .ok (.aload_n 1, 1) := by decide +kernel
theorem dX2_become_2 : decode cX2_become 2 = .ok (.getfield 30, 3) := by decide +kernel
theorem dX2_become_5 : decode cX2_become 5 = .ok (.putfield 30, 3) := by decide +kernel
theorem dX2_become_8 : decode cX2_become 8 = .ok (.aload_n 0, 1) := by decide +kernel
theorem dX2_become_9 : decode cX2_become 9 = .ok (.aload_n 1, 1) := by decide +kernel
theorem dX2_become_10 : decode cX2_become 10 = .ok (.getfield 34, 3) := by decide +kernel
theorem dX2_become_13 : decode cX2_become 13 = .ok (.putfield 34, 3) := by decide +kernel
theorem dX2_become_16 : decode cX2_become 16 = .ok (.aload_n 0, 1) := by decide +kernel
theorem dX2_become_17 : decode cX2_become 17 = .ok (.aload_n 1, 1) := by decide +kernel
theorem dX2_become_18 : decode cX2_become 18 = .ok (.getfield 37, 3) := by decide +kernel
theorem dX2_become_21 : decode cX2_become 21 = .ok (.putfield 37, 3) := by decide +kernel
theorem dX2_become_24 : decode cX2_become 24 = .ok (.iconst 0, 1) := by decide +kernel
theorem dX2_become_25 : decode cX2_become 25 = .ok (.istore_n 2, 1) := by decide +kernel
theorem dX2_become_26 : decode cX2_become 26 = .ok (.iload_n 2, 1) := by decide +kernel
theorem dX2_become_27 : decode cX2_become 27 = .ok (.bipush 7, 2) := by decide +kernel
theorem dX2_become_29 : decode cX2_become 29 = .ok (.if_icmp .ge 69, 3) := by decide +kernel
theorem dX2_become_32 : decode cX2_become 32 = .ok (.aload_n 0, 1) := by decide +kernel
theorem dX2_become_33 : decode cX2_become 33 = .ok (.getfield 9, 3) := by decide +kernel
theorem dX2_become_36 : decode cX2_become 36 = .ok (.iload_n 2, 1) := by decide +kernel
theorem dX2_become_37 : decode cX2_become 37 = .ok (.aload_n 1, 1) := by decide +kernel
theorem dX2_become_38 : decode cX2_become 38 = .ok (.getfield 9, 3) := by decide +kernel
theorem dX2_become_41 : decode cX2_become 41 = .ok (.iload_n 2, 1) := by decide +kernel
theorem dX2_become_42 : decode cX2_become 42 = .ok (.iaload, 1) := by decide +kernel
theorem dX2_become_43 : decode cX2_become 43 = .ok (.iastore, 1) := by decide +kernel
theorem dX2_become_44 : decode cX2_become 44 = .ok (.aload_n 0, 1) := by decide +kernel
theorem dX2_become_45 : decode cX2_become 45 = .ok (.getfield 15, 3) := by decide +kernel
theorem dX2_become_48 : decode cX2_become 48 = .ok (.iload_n 2, 1) := by decide +kernel
theorem dX2_become_49 : decode cX2_become 49 = .ok (.aload_n 1, 1) := by decide +kernel
theorem dX2_become_50 : decode cX2_become 50 = .ok (.getfield 15, 3) := by decide +kernel
theorem dX2_become_53 : decode cX2_become 53 = .ok (.iload_n 2, 1) := by decide +kernel
theorem dX2_become_54 : decode cX2_become 54 = .ok (.iaload, 1) := by decide +kernel
theorem dX2_become_55 : decode cX2_become 55 = .ok (.iastore, 1) := by decide +kernel
theorem dX2_become_56 : decode cX2_become 56 = .ok (.aload_n 0, 1) := by decide +kernel
theorem dX2_become_57 : decode cX2_become 57 = .ok (.getfield 18, 3) := by decide +kernel
theorem dX2_become_60 : decode cX2_become 60 = .ok (.iload_n 2, 1) := by decide +kernel
theorem dX2_become_61 : decode cX2_become 61 = .ok (.aload_n 1, 1) := by decide +kernel
theorem dX2_become_62 : decode cX2_become 62 = .ok (.getfield 18, 3) := by decide +kernel
theorem dX2_become_65 : decode cX2_become 65 = .ok (.iload_n 2, 1) := by decide +kernel
theorem dX2_become_66 : decode cX2_become 66 = .ok (.iaload, 1) := by decide +kernel
theorem dX2_become_67 : decode cX2_become 67 = .ok (.iastore, 1) := by decide +kernel
theorem dX2_become_68 : decode cX2_become 68 = .ok (.aload_n 0, 1) := by decide +kernel
theorem dX2_become_69 : decode cX2_become 69 = .ok (.getfield 21, 3) := by decide +kernel
theorem dX2_become_72 : decode cX2_become 72 = .ok (.iload_n 2, 1) := by decide +kernel
theorem dX2_become_73 : decode cX2_become 73 = .ok (.aload_n 1, 1) := by decide +kernel
theorem dX2_become_74 : decode cX2_become 74 = .ok (.getfield 21, 3) := by decide +kernel
theorem dX2_become_77 : decode cX2_become 77 = .ok (.iload_n 2, 1) := by decide +kernel
theorem dX2_become_78 : decode cX2_become 78 = .ok (.iaload, 1) := by decide +kernel
theorem dX2_become_79 : decode cX2_become 79 = .ok (.iastore, 1) := by decide +kernel
theorem dX2_become_80 : decode cX2_become 80 = .ok (.aload_n 0, 1) := by decide +kernel
theorem dX2_become_81 : decode cX2_become 81 = .ok (.getfield 24, 3) := by decide +kernel
theorem dX2_become_84 : decode cX2_become 84 = .ok (.iload_n 2, 1) := by decide +kernel
theorem dX2_become_85 : decode cX2_become 85 = .ok (.aload_n 1, 1) := by decide +kernel
theorem dX2_become_86 : decode cX2_become 86 = .ok (.getfield 24, 3) := by decide +kernel
theorem dX2_become_89 : decode cX2_become 89 = .ok (.iload_n 2, 1) := by decide +kernel
theorem dX2_become_90 : decode cX2_become 90 = .ok (.iaload, 1) := by decide +kernel
theorem dX2_become_91 : decode cX2_become 91 = .ok (.iastore, 1) := by decide +kernel
theorem dX2_become_92 : decode cX2_become 92 = .ok (.iinc 2 1, 3) := by decide +kernel
theorem dX2_become_95 : decode cX2_become 95 = .ok (.goto (-69), 3) := by decide +kernel
theorem dX2_become_98 : decode cX2_become 98 = .ok (.return_, 1) := by decide +kernel
theorem dX2_hailPans_0 : decode cX2_hailPans 0 = .ok (.iconst 0, 1) := by decide +kernel
theorem dX2_hailPans_1 : decode cX2_hailPans 1 = .ok (.istore_n 1, 1) := by decide +kernel
theorem dX2_hailPans_2 : decode cX2_hailPans 2 = .ok (.iconst 0, 1) := by decide +kernel
theorem dX2_hailPans_3 : decode cX2_hailPans 3 = .ok (.istore_n 2, 1) := by decide +kernel
theorem dX2_hailPans_4 : decode cX2_hailPans 4 = .ok (.iload_n 2, 1) := by decide +kernel
theorem dX2_hailPans_5 : decode cX2_hailPans 5 = .ok (.aload_n 0, 1) := by decide +kernel
theorem dX2_hailPans_6 : decode cX2_hailPans 6 = .ok (.getfield 30, 3) := by decide +kernel
theorem dX2_hailPans_9 : decode cX2_hailPans 9 = .ok (.if_icmp .ge 25, 3) := by decide +kernel
theorem dX2_hailPans_12 : decode cX2_hailPans 12 = .ok (.aload_n 0, 1) := by decide +kernel
theorem dX2_hailPans_13 : decode cX2_hailPans 13 = .ok (.getfield 21, 3) := by decide +kernel
theorem dX2_hailPans_16 : decode cX2_hailPans 16 = .ok (.iload_n 2, 1) := by decide +kernel
theorem dX2_hailPans_17 : decode cX2_hailPans 17 = .ok (.iaload, 1) := by decide +kernel
theorem dX2_hailPans_18 : decode cX2_hailPans 18 = .ok (.iconst 2, 1) := by decide +kernel
theorem dX2_hailPans_19 : decode cX2_hailPans 19 = .ok (.if_icmp .ne 9, 3) := by decide +kernel
theorem dX2_hailPans_22 : decode cX2_hailPans 22 = .ok (.iload_n 1, 1) := by decide +kernel
theorem dX2_hailPans_23 : decode cX2_hailPans 23 = .ok (.iconst 1, 1) := by decide +kernel
theorem dX2_hailPans_24 : decode cX2_hailPans 24 = .ok (.iload_n 2, 1) := by decide +kernel
theorem dX2_hailPans_25 : decode cX2_hailPans 25 = .ok (.ishl, 1) := by decide +kernel
theorem dX2_hailPans_26 : decode cX2_hailPans 26 = .ok (.ior, 1) := by decide +kernel
theorem dX2_hailPans_27 : decode cX2_hailPans 27 = .ok (.istore_n 1, 1) := by decide +kernel
theorem dX2_hailPans_28 : decode cX2_hailPans 28 = .ok (.iinc 2 1, 3) := by decide +kernel
theorem dX2_hailPans_31 : decode cX2_hailPans 31 = .ok (.goto (-27), 3) := by decide +kernel
theorem dX2_hailPans_34 : decode cX2_hailPans 34 = .ok (.iload_n 1, 1) := by decide +kernel
theorem dX2_hailPans_35 : decode cX2_hailPans 35 = .ok (.ireturn, 1) := by decide +kernel
theorem dX2_spoonsOfLesser_0 : decode cX2_spoonsOfLesser 0 = .ok (.aload_n 0, 1) := by decide +kernel
theorem dX2_spoonsOfLesser_1 : decode cX2_spoonsOfLesser 1 = .ok (.getfield 9, 3) := by decide +kernel
theorem dX2_spoonsOfLesser_4 : decode cX2_spoonsOfLesser 4 = .ok (.iload_n 1, 1) := by decide +kernel
theorem dX2_spoonsOfLesser_5 : decode cX2_spoonsOfLesser 5 = .ok (.iaload, 1) := by decide +kernel
theorem dX2_spoonsOfLesser_6 : decode cX2_spoonsOfLesser 6 = .ok (.aload_n 0, 1) := by decide +kernel
theorem dX2_spoonsOfLesser_7 : decode cX2_spoonsOfLesser 7 = .ok (.getfield 9, 3) := by decide +kernel
theorem dX2_spoonsOfLesser_10 : decode cX2_spoonsOfLesser 10 = .ok (.iload_n 2, 1) := by decide +kernel
theorem dX2_spoonsOfLesser_11 : decode cX2_spoonsOfLesser 11 = .ok (.iaload, 1) := by decide +kernel
theorem dX2_spoonsOfLesser_12 : decode cX2_spoonsOfLesser 12 = .ok (.if_icmp .ne 5, 3) := by decide +kernel
theorem dX2_spoonsOfLesser_15 : decode cX2_spoonsOfLesser 15 = .ok (.iconst 0, 1) := by decide +kernel
theorem dX2_spoonsOfLesser_16 : decode cX2_spoonsOfLesser 16 = .ok (.ireturn, 1) := by decide +kernel
theorem dX2_spoonsOfLesser_17 : decode cX2_spoonsOfLesser 17 = .ok (.iconst 1, 1) := by decide +kernel
theorem dX2_spoonsOfLesser_18 : decode cX2_spoonsOfLesser 18 = .ok (.istore 5, 2) := by decide +kernel
theorem dX2_spoonsOfLesser_20 : decode cX2_spoonsOfLesser 20 = .ok (.iload 5, 2) := by decide +kernel
theorem dX2_spoonsOfLesser_22 : decode cX2_spoonsOfLesser 22 = .ok (.iload_n 3, 1) := by decide +kernel
theorem dX2_spoonsOfLesser_23 : decode cX2_spoonsOfLesser 23 = .ok (.if_icmp .ge 38, 3) := by decide +kernel
theorem dX2_spoonsOfLesser_26 : decode cX2_spoonsOfLesser 26 = .ok (.iload 5, 2) := by decide +kernel
theorem dX2_spoonsOfLesser_28 : decode cX2_spoonsOfLesser 28 = .ok (.aload_n 0, 1) := by decide +kernel
theorem dX2_spoonsOfLesser_29 : decode cX2_spoonsOfLesser 29 = .ok (.getfield 9, 3) := by decide +kernel
theorem dX2_spoonsOfLesser_32 : decode cX2_spoonsOfLesser 32 = .ok (.iload_n 1, 1) := by decide +kernel
theorem dX2_spoonsOfLesser_33 : decode cX2_spoonsOfLesser 33 = .ok (.iaload, 1) := by decide +kernel
theorem dX2_spoonsOfLesser_34 : decode cX2_spoonsOfLesser 34 = .ok (.imul, 1) := by decide +kernel
theorem dX2_spoonsOfLesser_35 : decode cX2_spoonsOfLesser 35 = .ok (.iload_n 3, 1) := by decide +kernel
theorem dX2_spoonsOfLesser_36 : decode cX2_spoonsOfLesser 36 = .ok (.iload 5, 2) := by decide +kernel
theorem dX2_spoonsOfLesser_38 : decode cX2_spoonsOfLesser 38 = .ok (.isub, 1) := by decide +kernel
theorem dX2_spoonsOfLesser_39 : decode cX2_spoonsOfLesser 39 = .ok (.aload_n 0, 1) := by decide +kernel
theorem dX2_spoonsOfLesser_40 : decode cX2_spoonsOfLesser 40 = .ok (.getfield 9, 3) := by decide +kernel
theorem dX2_spoonsOfLesser_43 : decode cX2_spoonsOfLesser 43 = .ok (.iload_n 2, 1) := by decide +kernel
theorem dX2_spoonsOfLesser_44 : decode cX2_spoonsOfLesser 44 = .ok (.iaload, 1) := by decide +kernel
theorem dX2_spoonsOfLesser_45 : decode cX2_spoonsOfLesser 45 = .ok (.imul, 1) := by decide +kernel
theorem dX2_spoonsOfLesser_46 : decode cX2_spoonsOfLesser 46 = .ok (.iadd, 1) := by decide +kernel
theorem dX2_spoonsOfLesser_47 : decode cX2_spoonsOfLesser 47 = .ok (.iload 4, 2) := by decide +kernel
theorem dX2_spoonsOfLesser_49 : decode cX2_spoonsOfLesser 49 = .ok (.if_icmp .ne 6, 3) := by decide +kernel
theorem dX2_spoonsOfLesser_52 : decode cX2_spoonsOfLesser 52 = .ok (.iload 5, 2) := by decide +kernel
theorem dX2_spoonsOfLesser_54 : decode cX2_spoonsOfLesser 54 = .ok (.ireturn, 1) := by decide +kernel
theorem dX2_spoonsOfLesser_55 : decode cX2_spoonsOfLesser 55 = .ok (.iinc 5 1, 3) := by decide +kernel
theorem dX2_spoonsOfLesser_58 : decode cX2_spoonsOfLesser 58 = .ok (.goto (-38), 3) := by decide +kernel
theorem dX2_spoonsOfLesser_61 : decode cX2_spoonsOfLesser 61 = .ok (.iconst 0, 1) := by decide +kernel
theorem dX2_spoonsOfLesser_62 : decode cX2_spoonsOfLesser 62 = .ok (.ireturn, 1) := by decide +kernel
theorem dX3_init_0 : decode cX3_init 0 = .ok (.aload_n 0, 1) := by decide +kernel
theorem dX3_init_1 : decode cX3_init 1 = .ok (.invokespecial 3, 3) := by decide +kernel
theorem dX3_init_4 : decode cX3_init 4 = .ok (.aload_n 0, 1) := by decide +kernel
theorem dX3_init_5 : decode cX3_init 5 = .ok (.iconst 5, 1) := by decide +kernel
theorem dX3_init_6 : decode cX3_init 6 = .ok (.newarray .int, 2) := by decide +kernel
theorem dX3_init_8 : decode cX3_init 8 = .ok (.putfield 9, 3) := by decide +kernel
theorem dX3_init_11 : decode cX3_init 11 = .ok (.aload_n 0, 1) := by decide +kernel
theorem dX3_init_12 : decode cX3_init 12 = .ok (.iconst 5, 1) := by decide +kernel
theorem dX3_init_13 : decode cX3_init 13 = .ok (.newarray .int, 2) := by decide +kernel
theorem dX3_init_15 : decode cX3_init 15 = .ok (.putfield 15, 3) := by decide +kernel
theorem dX3_init_18 : decode cX3_init 18 = .ok (.aload_n 0, 1) := by decide +kernel
theorem dX3_init_19 : decode cX3_init 19 = .ok (.iconst 5, 1) := by decide +kernel
theorem dX3_init_20 : decode cX3_init 20 = .ok (.newarray .int, 2) := by decide +kernel
theorem dX3_init_22 : decode cX3_init 22 = .ok (.putfield 18, 3) := by decide +kernel
theorem dX3_init_25 : decode cX3_init 25 = .ok (.return_, 1) := by decide +kernel
theorem dX3_append_0 : decode cX3_append 0 = .ok (.aload_n 0, 1) := by decide +kernel
theorem dX3_append_1 : decode cX3_append 1 = .ok (.getfield 21, 3) := by decide +kernel
theorem dX3_append_4 : decode cX3_append 4 = .ok (.iconst 5, 1) := by decide +kernel
theorem dX3_append_5 : decode cX3_append 5 = .ok (.if_icmp .lt 5, 3) := by decide +kernel
theorem dX3_append_8 : decode cX3_append 8 = .ok (.iconst 0, 1) := by decide +kernel
theorem dX3_append_9 : decode cX3_append 9 = .ok (.ireturn, 1) := by decide +kernel
theorem dX3_append_10 : decode cX3_append 10 = .ok (.aload_n 0, 1) := by decide +kernel
theorem dX3_append_11 : decode cX3_append 11 = .ok (.getfield 9, 3) := by decide +kernel
theorem dX3_append_14 : decode cX3_append 14 = .ok (.aload_n 0, 1) := by decide +kernel
theorem dX3_append_15 : decode cX3_append 15 = .ok (.getfield 21, 3) := by decide +kernel
theorem dX3_append_18 : decode cX3_append 18 = .ok (.iload_n 1, 1) := by decide +kernel
theorem dX3_append_19 : decode cX3_append 19 = .ok (.iastore, 1) := by decide +kernel
theorem dX3_append_20 : decode cX3_append 20 = .ok (.aload_n 0, 1) := by decide +kernel
theorem dX3_append_21 : decode cX3_append 21 = .ok (.getfield 15, 3) := by decide +kernel
theorem dX3_append_24 : decode cX3_append 24 = .ok (.aload_n 0, 1) := by decide +kernel
theorem dX3_append_25 : decode cX3_append 25 = .ok (.getfield 21, 3) := by decide +kernel
theorem dX3_append_28 : decode cX3_append 28 = .ok (.iload_n 2, 1) := by decide +kernel
theorem dX3_append_29 : decode cX3_append 29 = .ok (.iastore, 1) := by decide +kernel
theorem dX3_append_30 : decode cX3_append 30 = .ok (.aload_n 0, 1) := by decide +kernel
theorem dX3_append_31 : decode cX3_append 31 = .ok (.getfield 18, 3) := by decide +kernel
theorem dX3_append_34 : decode cX3_append 34 = .ok (.aload_n 0, 1) := by decide +kernel
theorem dX3_append_35 : decode cX3_append 35 = .ok (.getfield 21, 3) := by decide +kernel
theorem dX3_append_38 : decode cX3_append 38 = .ok (.iload_n 3, 1) := by decide +kernel
theorem dX3_append_39 : decode cX3_append 39 = .ok (.iastore, 1) := by decide +kernel
theorem dX3_append_40 : decode cX3_append 40 = .ok (.aload_n 0, 1) := by decide +kernel
theorem dX3_append_41 : decode cX3_append 41 = .ok (.dup, 1) := by decide +kernel
theorem dX3_append_42 : decode cX3_append 42 = .ok (.getfield 21, 3) := by decide +kernel
theorem dX3_append_45 : decode cX3_append 45 = .ok (.iconst 1, 1) := by decide +kernel
theorem dX3_append_46 : decode cX3_append 46 = .ok (.iadd, 1) := by decide +kernel
theorem dX3_append_47 : decode cX3_append 47 = .ok (.putfield 21, 3) := by decide +kernel
theorem dX3_append_50 : decode cX3_append 50 = .ok (.iconst 1, 1) := by decide +kernel
theorem dX3_append_51 : decode cX3_append 51 = .ok (.ireturn, 1) := by decide +kernel
theorem dX4_init_0 : decode cX4_init 0 = .ok (.aload_n 0, 1) := by decide +kernel
theorem dX4_init_1 : decode cX4_init 1 = .ok (.invokespecial 3, 3) := by decide +kernel
theorem dX4_init_4 : decode cX4_init 4 = .ok (.aload_n 0, 1) := by decide +kernel
theorem dX4_init_5 : decode cX4_init 5 = .ok (.bipush 49, 2) := by decide +kernel
theorem dX4_init_7 : decode cX4_init 7 = .ok (.newarray .int, 2) := by decide +kernel
theorem dX4_init_9 : decode cX4_init 9 = .ok (.putfield 9, 3) := by decide +kernel
theorem dX4_init_12 : decode cX4_init 12 = .ok (.aload_n 0, 1) := by decide +kernel
theorem dX4_init_13 : decode cX4_init 13 = .ok (.aload_n 1, 1) := by decide +kernel
theorem dX4_init_14 : decode cX4_init 14 = .ok (.putfield 15, 3) := by decide +kernel
theorem dX4_init_17 : decode cX4_init 17 = .ok (.return_, 1) := by decide +kernel
theorem dX4_fill_0 : decode cX4_fill 0 = .ok (.aload_n 0, 1) := by decide +kernel
theorem dX4_fill_1 : decode cX4_fill 1 = .ok (.iconst 0, 1) := by decide +kernel
theorem dX4_fill_2 : decode cX4_fill 2 = .ok (.putfield 19, 3) := by decide +kernel
theorem dX4_fill_5 : decode cX4_fill 5 = .ok (.aload_n 0, 1) := by decide +kernel
theorem dX4_fill_6 : decode cX4_fill 6 = .ok (.iconst 0, 1) := by decide +kernel
theorem dX4_fill_7 : decode cX4_fill 7 = .ok (.putfield 23, 3) := by decide +kernel
theorem dX4_fill_10 : decode cX4_fill 10 = .ok (.iconst 0, 1) := by decide +kernel
theorem dX4_fill_11 : decode cX4_fill 11 = .ok (.istore_n 1, 1) := by decide +kernel
theorem dX4_fill_12 : decode cX4_fill 12 = .ok (.iload_n 1, 1) := by decide +kernel
theorem dX4_fill_13 : decode cX4_fill 13 = .ok (.bipush 49, 2) := by decide +kernel
theorem dX4_fill_15 : decode cX4_fill 15 = .ok (.if_icmp .ge 16, 3) := by decide +kernel
theorem dX4_fill_18 : decode cX4_fill 18 = .ok (.aload_n 0, 1) := by decide +kernel
theorem dX4_fill_19 : decode cX4_fill 19 = .ok (.getfield 9, 3) := by decide +kernel
theorem dX4_fill_22 : decode cX4_fill 22 = .ok (.iload_n 1, 1) := by decide +kernel
theorem dX4_fill_23 : decode cX4_fill 23 = .ok (.iconst 0, 1) := by decide +kernel
theorem dX4_fill_24 : decode cX4_fill 24 = .ok (.iastore, 1) := by decide +kernel
theorem dX4_fill_25 : decode cX4_fill 25 = .ok (.iinc 1 1, 3) := by decide +kernel
theorem dX4_fill_28 : decode cX4_fill 28 = .ok (.goto (-16), 3) := by decide +kernel
theorem dX4_fill_31 : decode cX4_fill 31 = .ok (.iconst 0, 1) := by decide +kernel
theorem dX4_fill_32 : decode cX4_fill 32 = .ok (.istore_n 1, 1) := by decide +kernel
theorem dX4_fill_33 : decode cX4_fill 33 = .ok (.iload_n 1, 1) := by decide +kernel
theorem dX4_fill_34 : decode cX4_fill 34 = .ok (.aload_n 0, 1) := by decide +kernel
theorem dX4_fill_35 : decode cX4_fill 35 = .ok (.getfield 15, 3) := by decide +kernel
theorem dX4_fill_38 : decode cX4_fill 38 = .ok (.getfield 26, 3) := by decide +kernel
theorem dX4_fill_41 : decode cX4_fill 41 = .ok (.if_icmp .ge 28, 3) := by decide +kernel
theorem dX4_fill_44 : decode cX4_fill 44 = .ok (.aload_n 0, 1) := by decide +kernel
theorem dX4_fill_45 : decode cX4_fill 45 = .ok (.getfield 9, 3) := by decide +kernel
theorem dX4_fill_48 : decode cX4_fill 48 = .ok (.iload_n 1, 1) := by decide +kernel
theorem dX4_fill_49 : decode cX4_fill 49 = .ok (.iload_n 1, 1) := by decide +kernel
theorem dX4_fill_50 : decode cX4_fill 50 = .ok (.invokestatic 31, 3) := by decide +kernel
theorem dX4_fill_53 : decode cX4_fill 53 = .ok (.aload_n 0, 1) := by decide +kernel
theorem dX4_fill_54 : decode cX4_fill 54 = .ok (.getfield 15, 3) := by decide +kernel
theorem dX4_fill_57 : decode cX4_fill 57 = .ok (.getfield 35, 3) := by decide +kernel
theorem dX4_fill_60 : decode cX4_fill 60 = .ok (.iload_n 1, 1) := by decide +kernel
theorem dX4_fill_61 : decode cX4_fill 61 = .ok (.iaload, 1) := by decide +kernel
theorem dX4_fill_62 : decode cX4_fill 62 = .ok (.iastore, 1) := by decide +kernel
theorem dX4_fill_63 : decode cX4_fill 63 = .ok (.iinc 1 1, 3) := by decide +kernel
theorem dX4_fill_66 : decode cX4_fill 66 = .ok (.goto (-33), 3) := by decide +kernel
theorem dX4_fill_69 : decode cX4_fill 69 = .ok (.return_, 1) := by decide +kernel
theorem dX4_become_0 : decode cX4_become 0 = .ok (.aload_n 0, 1) := by decide +kernel
theorem dX4_become_1 : decode cX4_become 1 = .ok (.aload_n 1, 1) := by decide +kernel
theorem dX4_become_2 : decode cX4_become 2 = .ok (.getfield 19, 3) := by decide +kernel
theorem dX4_become_5 : decode cX4_become 5 = .ok (.putfield 19, 3) := by decide +kernel
theorem dX4_become_8 : decode cX4_become 8 = .ok (.aload_n 0, 1) := by decide +kernel
theorem dX4_become_9 : decode cX4_become 9 = .ok (.aload_n 1, 1) := by decide +kernel
theorem dX4_become_10 : decode cX4_become 10 = .ok (.getfield 23, 3) := by decide +kernel
theorem dX4_become_13 : decode cX4_become 13 = .ok (.putfield 23, 3) := by decide +kernel
theorem dX4_become_16 : decode cX4_become 16 = .ok (.iconst 0, 1) := by decide +kernel
theorem dX4_become_17 : decode cX4_become 17 = .ok (.istore_n 2, 1) := by decide +kernel
theorem dX4_become_18 : decode cX4_become 18 = .ok (.iload_n 2, 1) := by decide +kernel
theorem dX4_become_19 : decode cX4_become 19 = .ok (.bipush 49, 2) := by decide +kernel
theorem dX4_become_21 : decode cX4_become 21 = .ok (.if_icmp .ge 21, 3) := by decide +kernel
theorem dX4_become_24 : decode cX4_become 24 = .ok (.aload_n 0, 1) := by decide +kernel
theorem dX4_become_25 : decode cX4_become 25 = .ok (.getfield 9, 3) := by decide +kernel
theorem dX4_become_28 : decode cX4_become 28 = .ok (.iload_n 2, 1) := by decide +kernel
theorem dX4_become_29 : decode cX4_become 29 = .ok (.aload_n 1, 1) := by decide +kernel
theorem dX4_become_30 : decode cX4_become 30 = .ok (.getfield 9, 3) := by decide +kernel
theorem dX4_become_33 : decode cX4_become 33 = .ok (.iload_n 2, 1) := by decide +kernel
theorem dX4_become_34 : decode cX4_become 34 = .ok (.iaload, 1) := by decide +kernel
theorem dX4_become_35 : decode cX4_become 35 = .ok (.iastore, 1) := by decide +kernel
theorem dX4_become_36 : decode cX4_become 36 = .ok (.iinc 2 1, 3) := by decide +kernel
theorem dX4_become_39 : decode cX4_become 39 = .ok (.goto (-21), 3) := by decide +kernel
theorem dX4_become_42 : decode cX4_become 42 = .ok (.return_, 1) := by decide +kernel
theorem dX4_at_0 : decode cX4_at 0 = .ok (.iload_n 0, 1) := by decide +kernel
theorem dX4_at_1 : decode cX4_at 1 = .ok (.bipush 7, 2) := by decide +kernel
theorem dX4_at_3 : decode cX4_at 3 = .ok (.imul, 1) := by decide +kernel
theorem dX4_at_4 : decode cX4_at 4 = .ok (.iload_n 1, 1) := by decide +kernel
theorem dX4_at_5 : decode cX4_at 5 = .ok (.iadd, 1) := by decide +kernel
theorem dX4_at_6 : decode cX4_at 6 = .ok (.ireturn, 1) := by decide +kernel
theorem dX4_amount_0 : decode cX4_amount 0 = .ok (.aload_n 0, 1) := by decide +kernel
theorem dX4_amount_1 : decode cX4_amount 1 = .ok (.getfield 9, 3) := by decide +kernel
theorem dX4_amount_4 : decode cX4_amount 4 = .ok (.iload_n 1, 1) := by decide +kernel
theorem dX4_amount_5 : decode cX4_amount 5 = .ok (.iload_n 2, 1) := by decide +kernel
theorem dX4_amount_6 : decode cX4_amount 6 = .ok (.invokestatic 31, 3) := by decide +kernel
theorem dX4_amount_9 : decode cX4_amount 9 = .ok (.iaload, 1) := by decide +kernel
theorem dX4_amount_10 : decode cX4_amount 10 = .ok (.ireturn, 1) := by decide +kernel
theorem dX4_inPan_0 : decode cX4_inPan 0 = .ok (.iconst 0, 1) := by decide +kernel
theorem dX4_inPan_1 : decode cX4_inPan 1 = .ok (.istore_n 2, 1) := by decide +kernel
theorem dX4_inPan_2 : decode cX4_inPan 2 = .ok (.iconst 0, 1) := by decide +kernel
theorem dX4_inPan_3 : decode cX4_inPan 3 = .ok (.istore_n 3, 1) := by decide +kernel
theorem dX4_inPan_4 : decode cX4_inPan 4 = .ok (.iload_n 3, 1) := by decide +kernel
theorem dX4_inPan_5 : decode cX4_inPan 5 = .ok (.aload_n 0, 1) := by decide +kernel
theorem dX4_inPan_6 : decode cX4_inPan 6 = .ok (.getfield 15, 3) := by decide +kernel
theorem dX4_inPan_9 : decode cX4_inPan 9 = .ok (.getfield 26, 3) := by decide +kernel
theorem dX4_inPan_12 : decode cX4_inPan 12 = .ok (.if_icmp .ge 18, 3) := by decide +kernel
theorem dX4_inPan_15 : decode cX4_inPan 15 = .ok (.iload_n 2, 1) := by decide +kernel
theorem dX4_inPan_16 : decode cX4_inPan 16 = .ok (.aload_n 0, 1) := by decide +kernel
theorem dX4_inPan_17 : decode cX4_inPan 17 = .ok (.iload_n 1, 1) := by decide +kernel
theorem dX4_inPan_18 : decode cX4_inPan 18 = .ok (.iload_n 3, 1) := by decide +kernel
theorem dX4_inPan_19 : decode cX4_inPan 19 = .ok (.invokevirtual 36, 3) := by decide +kernel
theorem dX4_inPan_22 : decode cX4_inPan 22 = .ok (.iadd, 1) := by decide +kernel
theorem dX4_inPan_23 : decode cX4_inPan 23 = .ok (.istore_n 2, 1) := by decide +kernel
theorem dX4_inPan_24 : decode cX4_inPan 24 = .ok (.iinc 3 1, 3) := by decide +kernel
theorem dX4_inPan_27 : decode cX4_inPan 27 = .ok (.goto (-23), 3) := by decide +kernel
theorem dX4_inPan_30 : decode cX4_inPan 30 = .ok (.iload_n 2, 1) := by decide +kernel
theorem dX4_inPan_31 : decode cX4_inPan 31 = .ok (.ireturn, 1) := by decide +kernel
theorem dX4_inAll_0 : decode cX4_inAll 0 = .ok (.iconst 0, 1) := by decide +kernel
theorem dX4_inAll_1 : decode cX4_inAll 1 = .ok (.istore_n 1, 1) := by decide +kernel
theorem dX4_inAll_2 : decode cX4_inAll 2 = .ok (.iconst 0, 1) := by decide +kernel
theorem dX4_inAll_3 : decode cX4_inAll 3 = .ok (.istore_n 2, 1) := by decide +kernel
theorem dX4_inAll_4 : decode cX4_inAll 4 = .ok (.iload_n 2, 1) := by decide +kernel
theorem dX4_inAll_5 : decode cX4_inAll 5 = .ok (.aload_n 0, 1) := by decide +kernel
theorem dX4_inAll_6 : decode cX4_inAll 6 = .ok (.getfield 15, 3) := by decide +kernel
theorem dX4_inAll_9 : decode cX4_inAll 9 = .ok (.getfield 26, 3) := by decide +kernel
theorem dX4_inAll_12 : decode cX4_inAll 12 = .ok (.if_icmp .ge 17, 3) := by decide +kernel
theorem dX4_inAll_15 : decode cX4_inAll 15 = .ok (.iload_n 1, 1) := by decide +kernel
theorem dX4_inAll_16 : decode cX4_inAll 16 = .ok (.aload_n 0, 1) := by decide +kernel
theorem dX4_inAll_17 : decode cX4_inAll 17 = .ok (.iload_n 2, 1) := by decide +kernel
theorem dX4_inAll_18 : decode cX4_inAll 18 = .ok (.invokevirtual 39, 3) := by decide +kernel
theorem dX4_inAll_21 : decode cX4_inAll 21 = .ok (.iadd, 1) := by decide +kernel
theorem dX4_inAll_22 : decode cX4_inAll 22 = .ok (.istore_n 1, 1) := by decide +kernel
theorem dX4_inAll_23 : decode cX4_inAll 23 = .ok (.iinc 2 1, 3) := by decide +kernel
theorem dX4_inAll_26 : decode cX4_inAll 26 = .ok (.goto (-22), 3) := by decide +kernel
theorem dX4_inAll_29 : decode cX4_inAll 29 = .ok (.iload_n 1, 1) := by decide +kernel
theorem dX4_inAll_30 : decode cX4_inAll 30 = .ok (.ireturn, 1) := by decide +kernel
theorem dX4_tasteOf_0 : decode cX4_tasteOf 0 = .ok (.iconst 0, 1) := by decide +kernel
theorem dX4_tasteOf_1 : decode cX4_tasteOf 1 = .ok (.istore_n 2, 1) := by decide +kernel
theorem dX4_tasteOf_2 : decode cX4_tasteOf 2 = .ok (.iconst 0, 1) := by decide +kernel
theorem dX4_tasteOf_3 : decode cX4_tasteOf 3 = .ok (.istore_n 3, 1) := by decide +kernel
theorem dX4_tasteOf_4 : decode cX4_tasteOf 4 = .ok (.iload_n 3, 1) := by decide +kernel
theorem dX4_tasteOf_5 : decode cX4_tasteOf 5 = .ok (.aload_n 0, 1) := by decide +kernel
theorem dX4_tasteOf_6 : decode cX4_tasteOf 6 = .ok (.getfield 15, 3) := by decide +kernel
theorem dX4_tasteOf_9 : decode cX4_tasteOf 9 = .ok (.getfield 26, 3) := by decide +kernel
theorem dX4_tasteOf_12 : decode cX4_tasteOf 12 = .ok (.if_icmp .ge 28, 3) := by decide +kernel
theorem dX4_tasteOf_15 : decode cX4_tasteOf 15 = .ok (.iload_n 2, 1) := by decide +kernel
theorem dX4_tasteOf_16 : decode cX4_tasteOf 16 = .ok (.aload_n 0, 1) := by decide +kernel
theorem dX4_tasteOf_17 : decode cX4_tasteOf 17 = .ok (.iload_n 1, 1) := by decide +kernel
theorem dX4_tasteOf_18 : decode cX4_tasteOf 18 = .ok (.iload_n 3, 1) := by decide +kernel
theorem dX4_tasteOf_19 : decode cX4_tasteOf 19 = .ok (.invokevirtual 36, 3) := by decide +kernel
theorem dX4_tasteOf_22 : decode cX4_tasteOf 22 = .ok (.aload_n 0, 1) := by decide +kernel
theorem dX4_tasteOf_23 : decode cX4_tasteOf 23 = .ok (.getfield 15, 3) := by decide +kernel
theorem dX4_tasteOf_26 : decode cX4_tasteOf 26 = .ok (.getfield 43, 3) := by decide +kernel
theorem dX4_tasteOf_29 : decode cX4_tasteOf 29 = .ok (.iload_n 3, 1) := by decide +kernel
theorem dX4_tasteOf_30 : decode cX4_tasteOf 30 = .ok (.iaload, 1) := by decide +kernel
theorem dX4_tasteOf_31 : decode cX4_tasteOf 31 = .ok (.imul, 1) := by decide +kernel
theorem dX4_tasteOf_32 : decode cX4_tasteOf 32 = .ok (.iadd, 1) := by decide +kernel
theorem dX4_tasteOf_33 : decode cX4_tasteOf 33 = .ok (.istore_n 2, 1) := by decide +kernel
theorem dX4_tasteOf_34 : decode cX4_tasteOf 34 = .ok (.iinc 3 1, 3) := by decide +kernel
theorem dX4_tasteOf_37 : decode cX4_tasteOf 37 = .ok (.goto (-33), 3) := by decide +kernel
theorem dX4_tasteOf_40 : decode cX4_tasteOf 40 = .ok (.iload_n 2, 1) := by decide +kernel
theorem dX4_tasteOf_41 : decode cX4_tasteOf 41 = .ok (.ireturn, 1) := by decide +kernel
theorem dX4_whereIs_0 : decode cX4_whereIs 0 = .ok (.iconst 0, 1) := by decide +kernel
theorem dX4_whereIs_1 : decode cX4_whereIs 1 = .ok (.istore_n 2, 1) := by decide +kernel
theorem dX4_whereIs_2 : decode cX4_whereIs 2 = .ok (.iconst 0, 1) := by decide +kernel
theorem dX4_whereIs_3 : decode cX4_whereIs 3 = .ok (.istore_n 3, 1) := by decide +kernel
theorem dX4_whereIs_4 : decode cX4_whereIs 4 = .ok (.iload_n 3, 1) := by decide +kernel
theorem dX4_whereIs_5 : decode cX4_whereIs 5 = .ok (.aload_n 0, 1) := by decide +kernel
theorem dX4_whereIs_6 : decode cX4_whereIs 6 = .ok (.getfield 15, 3) := by decide +kernel
theorem dX4_whereIs_9 : decode cX4_whereIs 9 = .ok (.getfield 26, 3) := by decide +kernel
theorem dX4_whereIs_12 : decode cX4_whereIs 12 = .ok (.if_icmp .ge 24, 3) := by decide +kernel
theorem dX4_whereIs_15 : decode cX4_whereIs 15 = .ok (.aload_n 0, 1) := by decide +kernel
theorem dX4_whereIs_16 : decode cX4_whereIs 16 = .ok (.iload_n 3, 1) := by decide +kernel
theorem dX4_whereIs_17 : decode cX4_whereIs 17 = .ok (.iload_n 1, 1) := by decide +kernel
theorem dX4_whereIs_18 : decode cX4_whereIs 18 = .ok (.invokevirtual 36, 3) := by decide +kernel
theorem dX4_whereIs_21 : decode cX4_whereIs 21 = .ok (.ifCond .le 9, 3) := by decide +kernel
theorem dX4_whereIs_24 : decode cX4_whereIs 24 = .ok (.iload_n 2, 1) := by decide +kernel
theorem dX4_whereIs_25 : decode cX4_whereIs 25 = .ok (.iconst 1, 1) := by decide +kernel
theorem dX4_whereIs_26 : decode cX4_whereIs 26 = .ok (.iload_n 3, 1) := by decide +kernel
theorem dX4_whereIs_27 : decode cX4_whereIs 27 = .ok (.ishl, 1) := by decide +kernel
theorem dX4_whereIs_28 : decode cX4_whereIs 28 = .ok (.ior, 1) := by decide +kernel
theorem dX4_whereIs_29 : decode cX4_whereIs 29 = .ok (.istore_n 2, 1) := by decide +kernel
theorem dX4_whereIs_30 : decode cX4_whereIs 30 = .ok (.iinc 3 1, 3) := by decide +kernel
theorem dX4_whereIs_33 : decode cX4_whereIs 33 = .ok (.goto (-29), 3) := by decide +kernel
theorem dX4_whereIs_36 : decode cX4_whereIs 36 = .ok (.iload_n 2, 1) := by decide +kernel
theorem dX4_whereIs_37 : decode cX4_whereIs 37 = .ok (.ireturn, 1) := by decide +kernel
theorem dX4_wettest_0 : decode cX4_wettest 0 = .ok (.bipush (-9), 2) := by decide +kernel
theorem dX4_wettest_2 : decode cX4_wettest 2 = .ok (.istore_n 1, 1) := by decide +kernel
theorem dX4_wettest_3 : decode cX4_wettest 3 = .ok (.iconst 0, 1) := by decide +kernel
theorem dX4_wettest_4 : decode cX4_wettest 4 = .ok (.istore_n 2, 1) := by decide +kernel
theorem dX4_wettest_5 : decode cX4_wettest 5 = .ok (.iconst 0, 1) := by decide +kernel
theorem dX4_wettest_6 : decode cX4_wettest 6 = .ok (.istore_n 3, 1) := by decide +kernel
theorem dX4_wettest_7 : decode cX4_wettest 7 = .ok (.iload_n 3, 1) := by decide +kernel
theorem dX4_wettest_8 : decode cX4_wettest 8 = .ok (.aload_n 0, 1) := by decide +kernel
theorem dX4_wettest_9 : decode cX4_wettest 9 = .ok (.getfield 15, 3) := by decide +kernel
theorem dX4_wettest_12 : decode cX4_wettest 12 = .ok (.getfield 26, 3) := by decide +kernel
theorem dX4_wettest_15 : decode cX4_wettest 15 = .ok (.if_icmp .ge 48, 3) := by decide +kernel
theorem dX4_wettest_18 : decode cX4_wettest 18 = .ok (.aload_n 0, 1) := by decide +kernel
theorem dX4_wettest_19 : decode cX4_wettest 19 = .ok (.getfield 15, 3) := by decide +kernel
theorem dX4_wettest_22 : decode cX4_wettest 22 = .ok (.getfield 43, 3) := by decide +kernel
theorem dX4_wettest_25 : decode cX4_wettest 25 = .ok (.aload_n 0, 1) := by decide +kernel
theorem dX4_wettest_26 : decode cX4_wettest 26 = .ok (.getfield 15, 3) := by decide +kernel
theorem dX4_wettest_29 : decode cX4_wettest 29 = .ok (.getfield 46, 3) := by decide +kernel
theorem dX4_wettest_32 : decode cX4_wettest 32 = .ok (.iload_n 3, 1) := by decide +kernel
theorem dX4_wettest_33 : decode cX4_wettest 33 = .ok (.iaload, 1) := by decide +kernel
theorem dX4_wettest_34 : decode cX4_wettest 34 = .ok (.iaload, 1) := by decide +kernel
theorem dX4_wettest_35 : decode cX4_wettest 35 = .ok (.istore 4, 2) := by decide +kernel
theorem dX4_wettest_37 : decode cX4_wettest 37 = .ok (.aload_n 0, 1) := by decide +kernel
theorem dX4_wettest_38 : decode cX4_wettest 38 = .ok (.iload 4, 2) := by decide +kernel
theorem dX4_wettest_40 : decode cX4_wettest 40 = .ok (.invokevirtual 49, 3) := by decide +kernel
theorem dX4_wettest_43 : decode cX4_wettest 43 = .ok (.istore 5, 2) := by decide +kernel
theorem dX4_wettest_45 : decode cX4_wettest 45 = .ok (.iload 5, 2) := by decide +kernel
theorem dX4_wettest_47 : decode cX4_wettest 47 = .ok (.iload_n 2, 1) := by decide +kernel
theorem dX4_wettest_48 : decode cX4_wettest 48 = .ok (.if_icmp .le 9, 3) := by decide +kernel
theorem dX4_wettest_51 : decode cX4_wettest 51 = .ok (.iload 5, 2) := by decide +kernel
theorem dX4_wettest_53 : decode cX4_wettest 53 = .ok (.istore_n 2, 1) := by decide +kernel
theorem dX4_wettest_54 : decode cX4_wettest 54 = .ok (.iload 4, 2) := by decide +kernel
theorem dX4_wettest_56 : decode cX4_wettest 56 = .ok (.istore_n 1, 1) := by decide +kernel
theorem dX4_wettest_57 : decode cX4_wettest 57 = .ok (.iinc 3 1, 3) := by decide +kernel
theorem dX4_wettest_60 : decode cX4_wettest 60 = .ok (.goto (-53), 3) := by decide +kernel
theorem dX4_wettest_63 : decode cX4_wettest 63 = .ok (.iload_n 1, 1) := by decide +kernel
theorem dX4_wettest_64 : decode cX4_wettest 64 = .ok (.ireturn, 1) := by decide +kernel
theorem dX4_ofYear_0 : decode cX4_ofYear 0 = .ok (.iconst 0, 1) := by decide +kernel
theorem dX4_ofYear_1 : decode cX4_ofYear 1 = .ok (.istore_n 2, 1) := by decide +kernel
theorem dX4_ofYear_2 : decode cX4_ofYear 2 = .ok (.iconst 0, 1) := by decide +kernel
theorem dX4_ofYear_3 : decode cX4_ofYear 3 = .ok (.istore_n 3, 1) := by decide +kernel
theorem dX4_ofYear_4 : decode cX4_ofYear 4 = .ok (.iload_n 3, 1) := by decide +kernel
theorem dX4_ofYear_5 : decode cX4_ofYear 5 = .ok (.aload_n 0, 1) := by decide +kernel
theorem dX4_ofYear_6 : decode cX4_ofYear 6 = .ok (.getfield 15, 3) := by decide +kernel
theorem dX4_ofYear_9 : decode cX4_ofYear 9 = .ok (.getfield 26, 3) := by decide +kernel
theorem dX4_ofYear_12 : decode cX4_ofYear 12 = .ok (.if_icmp .ge 53, 3) := by decide +kernel
theorem dX4_ofYear_15 : decode cX4_ofYear 15 = .ok (.iconst 0, 1) := by decide +kernel
theorem dX4_ofYear_16 : decode cX4_ofYear 16 = .ok (.istore 4, 2) := by decide +kernel
theorem dX4_ofYear_18 : decode cX4_ofYear 18 = .ok (.aload_n 0, 1) := by decide +kernel
theorem dX4_ofYear_19 : decode cX4_ofYear 19 = .ok (.getfield 15, 3) := by decide +kernel
theorem dX4_ofYear_22 : decode cX4_ofYear 22 = .ok (.getfield 43, 3) := by decide +kernel
theorem dX4_ofYear_25 : decode cX4_ofYear 25 = .ok (.iload_n 3, 1) := by decide +kernel
theorem dX4_ofYear_26 : decode cX4_ofYear 26 = .ok (.iaload, 1) := by decide +kernel
theorem dX4_ofYear_27 : decode cX4_ofYear 27 = .ok (.iload_n 1, 1) := by decide +kernel
theorem dX4_ofYear_28 : decode cX4_ofYear 28 = .ok (.if_icmp .ne 31, 3) := by decide +kernel
theorem dX4_ofYear_31 : decode cX4_ofYear 31 = .ok (.iload 4, 2) := by decide +kernel
theorem dX4_ofYear_33 : decode cX4_ofYear 33 = .ok (.aload_n 0, 1) := by decide +kernel
theorem dX4_ofYear_34 : decode cX4_ofYear 34 = .ok (.getfield 15, 3) := by decide +kernel
theorem dX4_ofYear_37 : decode cX4_ofYear 37 = .ok (.getfield 26, 3) := by decide +kernel
theorem dX4_ofYear_40 : decode cX4_ofYear 40 = .ok (.if_icmp .ge 19, 3) := by decide +kernel
theorem dX4_ofYear_43 : decode cX4_ofYear 43 = .ok (.iload_n 2, 1) := by decide +kernel
theorem dX4_ofYear_44 : decode cX4_ofYear 44 = .ok (.aload_n 0, 1) := by decide +kernel
theorem dX4_ofYear_45 : decode cX4_ofYear 45 = .ok (.iload 4, 2) := by decide +kernel
theorem dX4_ofYear_47 : decode cX4_ofYear 47 = .ok (.iload_n 3, 1) := by decide +kernel
theorem dX4_ofYear_48 : decode cX4_ofYear 48 = .ok (.invokevirtual 36, 3) := by decide +kernel
theorem dX4_ofYear_51 : decode cX4_ofYear 51 = .ok (.iadd, 1) := by decide +kernel
theorem dX4_ofYear_52 : decode cX4_ofYear 52 = .ok (.istore_n 2, 1) := by decide +kernel
theorem dX4_ofYear_53 : decode cX4_ofYear 53 = .ok (.iinc 4 1, 3) := by decide +kernel
theorem dX4_ofYear_56 : decode cX4_ofYear 56 = .ok (.goto (-38), 3) := by decide +kernel
theorem dX4_ofYear_59 : decode cX4_ofYear 59 = .ok (.iinc 3 1, 3) := by decide +kernel
theorem dX4_ofYear_62 : decode cX4_ofYear 62 = .ok (.goto (-58), 3) := by decide +kernel
theorem dX4_ofYear_65 : decode cX4_ofYear 65 = .ok (.iload_n 2, 1) := by decide +kernel
theorem dX4_ofYear_66 : decode cX4_ofYear 66 = .ok (.ireturn, 1) := by decide +kernel
theorem dX4_take_0 : decode cX4_take 0 = .ok (.iload_n 2, 1) := by decide +kernel
theorem dX4_take_1 : decode cX4_take 1 = .ok (.istore 4, 2) := by decide +kernel
theorem dX4_take_3 : decode cX4_take 3 = .ok (.iconst 0, 1) := by decide +kernel
theorem dX4_take_4 : decode cX4_take 4 = .ok (.istore 5, 2) := by decide +kernel
theorem dX4_take_6 : decode cX4_take 6 = .ok (.iload 5, 2) := by decide +kernel
theorem dX4_take_8 : decode cX4_take 8 = .ok (.aload_n 0, 1) := by decide +kernel
theorem dX4_take_9 : decode cX4_take 9 = .ok (.getfield 15, 3) := by decide +kernel
theorem dX4_take_12 : decode cX4_take 12 = .ok (.getfield 26, 3) := by decide +kernel
theorem dX4_take_15 : decode cX4_take 15 = .ok (.if_icmp .ge 93, 3) := by decide +kernel
theorem dX4_take_18 : decode cX4_take 18 = .ok (.aload_n 0, 1) := by decide +kernel
theorem dX4_take_19 : decode cX4_take 19 = .ok (.getfield 15, 3) := by decide +kernel
theorem dX4_take_22 : decode cX4_take 22 = .ok (.getfield 46, 3) := by decide +kernel
theorem dX4_take_25 : decode cX4_take 25 = .ok (.iload 5, 2) := by decide +kernel
theorem dX4_take_27 : decode cX4_take 27 = .ok (.iaload, 1) := by decide +kernel
theorem dX4_take_28 : decode cX4_take 28 = .ok (.istore 6, 2) := by decide +kernel
theorem dX4_take_30 : decode cX4_take 30 = .ok (.iload 4, 2) := by decide +kernel
theorem dX4_take_32 : decode cX4_take 32 = .ok (.aload_n 0, 1) := by decide +kernel
theorem dX4_take_33 : decode cX4_take 33 = .ok (.iload_n 1, 1) := by decide +kernel
theorem dX4_take_34 : decode cX4_take 34 = .ok (.iload 6, 2) := by decide +kernel
theorem dX4_take_36 : decode cX4_take 36 = .ok (.invokevirtual 36, 3) := by decide +kernel
theorem dX4_take_39 : decode cX4_take 39 = .ok (.invokestatic 52, 3) := by decide +kernel
theorem dX4_take_42 : decode cX4_take 42 = .ok (.istore 7, 2) := by decide +kernel
theorem dX4_take_44 : decode cX4_take 44 = .ok (.aload_n 0, 1) := by decide +kernel
theorem dX4_take_45 : decode cX4_take 45 = .ok (.getfield 9, 3) := by decide +kernel
theorem dX4_take_48 : decode cX4_take 48 = .ok (.iload_n 1, 1) := by decide +kernel
theorem dX4_take_49 : decode cX4_take 49 = .ok (.iload 6, 2) := by decide +kernel
theorem dX4_take_51 : decode cX4_take 51 = .ok (.invokestatic 31, 3) := by decide +kernel
theorem dX4_take_54 : decode cX4_take 54 = .ok (.dup2, 1) := by decide +kernel
theorem dX4_take_55 : decode cX4_take 55 = .ok (.iaload, 1) := by decide +kernel
theorem dX4_take_56 : decode cX4_take 56 = .ok (.iload 7, 2) := by decide +kernel
theorem dX4_take_58 : decode cX4_take 58 = .ok (.isub, 1) := by decide +kernel
theorem dX4_take_59 : decode cX4_take 59 = .ok (.iastore, 1) := by decide +kernel
theorem dX4_take_60 : decode cX4_take 60 = .ok (.iload_n 3, 1) := by decide +kernel
theorem dX4_take_61 : decode cX4_take 61 = .ok (.iconst (-1), 1) := by decide +kernel
theorem dX4_take_62 : decode cX4_take 62 = .ok (.if_icmp .ne 17, 3) := by decide +kernel
theorem dX4_take_65 : decode cX4_take 65 = .ok (.aload_n 0, 1) := by decide +kernel
theorem dX4_take_66 : decode cX4_take 66 = .ok (.dup, 1) := by decide +kernel
theorem dX4_take_67 : decode cX4_take 67 = .ok (.getfield 23, 3) := by decide +kernel
theorem dX4_take_70 : decode cX4_take 70 = .ok (.iload 7, 2) := by decide +kernel
theorem dX4_take_72 : decode cX4_take 72 = .ok (.iadd, 1) := by decide +kernel
theorem dX4_take_73 : decode cX4_take 73 = .ok (.putfield 23, 3) := by decide +kernel
theorem dX4_take_76 : decode cX4_take 76 = .ok (.goto 19, 3) := by decide +kernel
theorem dX4_take_79 : decode cX4_take 79 = .ok (.aload_n 0, 1) := by decide +kernel
theorem dX4_take_80 : decode cX4_take 80 = .ok (.getfield 9, 3) := by decide +kernel
theorem dX4_take_83 : decode cX4_take 83 = .ok (.iload_n 3, 1) := by decide +kernel
theorem dX4_take_84 : decode cX4_take 84 = .ok (.iload 6, 2) := by decide +kernel
theorem dX4_take_86 : decode cX4_take 86 = .ok (.invokestatic 31, 3) := by decide +kernel
theorem dX4_take_89 : decode cX4_take 89 = .ok (.dup2, 1) := by decide +kernel
theorem dX4_take_90 : decode cX4_take 90 = .ok (.iaload, 1) := by decide +kernel
theorem dX4_take_91 : decode cX4_take 91 = .ok (.iload 7, 2) := by decide +kernel
theorem dX4_take_93 : decode cX4_take 93 = .ok (.iadd, 1) := by decide +kernel
theorem dX4_take_94 : decode cX4_take 94 = .ok (.iastore, 1) := by decide +kernel
theorem dX4_take_95 : decode cX4_take 95 = .ok (.iload 4, 2) := by decide +kernel
theorem dX4_take_97 : decode cX4_take 97 = .ok (.iload 7, 2) := by decide +kernel
theorem dX4_take_99 : decode cX4_take 99 = .ok (.isub, 1) := by decide +kernel
theorem dX4_take_100 : decode cX4_take 100 = .ok (.istore 4, 2) := by decide +kernel
theorem dX4_take_102 : decode cX4_take 102 = .ok (.iinc 5 1, 3) := by decide +kernel
theorem dX4_take_105 : decode cX4_take 105 = .ok (.goto (-99), 3) := by decide +kernel
theorem dX4_take_108 : decode cX4_take 108 = .ok (.iload_n 2, 1) := by decide +kernel
theorem dX4_take_109 : decode cX4_take 109 = .ok (.iload 4, 2) := by decide +kernel
theorem dX4_take_111 : decode cX4_take 111 = .ok (.isub, 1) := by decide +kernel
theorem dX4_take_112 : decode cX4_take 112 = .ok (.ireturn, 1) := by decide +kernel
theorem dX4_passSpring_0 : decode cX4_passSpring 0 = .ok (.iconst 0, 1) := by decide +kernel
theorem dX4_passSpring_1 : decode cX4_passSpring 1 = .ok (.istore_n 1, 1) := by decide +kernel
theorem dX4_passSpring_2 : decode cX4_passSpring 2 = .ok (.iconst 0, 1) := by decide +kernel
theorem dX4_passSpring_3 : decode cX4_passSpring 3 = .ok (.istore_n 2, 1) := by decide +kernel
theorem dX4_passSpring_4 : decode cX4_passSpring 4 = .ok (.iload_n 2, 1) := by decide +kernel
theorem dX4_passSpring_5 : decode cX4_passSpring 5 = .ok (.aload_n 0, 1) := by decide +kernel
theorem dX4_passSpring_6 : decode cX4_passSpring 6 = .ok (.getfield 15, 3) := by decide +kernel
theorem dX4_passSpring_9 : decode cX4_passSpring 9 = .ok (.getfield 26, 3) := by decide +kernel
theorem dX4_passSpring_12 : decode cX4_passSpring 12 = .ok (.if_icmp .ge 27, 3) := by decide +kernel
theorem dX4_passSpring_15 : decode cX4_passSpring 15 = .ok (.iload_n 1, 1) := by decide +kernel
theorem dX4_passSpring_16 : decode cX4_passSpring 16 = .ok (.aload_n 0, 1) := by decide +kernel
theorem dX4_passSpring_17 : decode cX4_passSpring 17 = .ok (.iload_n 2, 1) := by decide +kernel
theorem dX4_passSpring_18 : decode cX4_passSpring 18 = .ok (.aload_n 0, 1) := by decide +kernel
theorem dX4_passSpring_19 : decode cX4_passSpring 19 = .ok (.getfield 15, 3) := by decide +kernel
theorem dX4_passSpring_22 : decode cX4_passSpring 22 = .ok (.getfield 57, 3) := by decide +kernel
theorem dX4_passSpring_25 : decode cX4_passSpring 25 = .ok (.iload_n 2, 1) := by decide +kernel
theorem dX4_passSpring_26 : decode cX4_passSpring 26 = .ok (.iaload, 1) := by decide +kernel
theorem dX4_passSpring_27 : decode cX4_passSpring 27 = .ok (.iconst (-1), 1) := by decide +kernel
theorem dX4_passSpring_28 : decode cX4_passSpring 28 = .ok (.invokevirtual 60, 3) := by decide +kernel
theorem dX4_passSpring_31 : decode cX4_passSpring 31 = .ok (.iadd, 1) := by decide +kernel
theorem dX4_passSpring_32 : decode cX4_passSpring 32 = .ok (.istore_n 1, 1) := by decide +kernel
theorem dX4_passSpring_33 : decode cX4_passSpring 33 = .ok (.iinc 2 1, 3) := by decide +kernel
theorem dX4_passSpring_36 : decode cX4_passSpring 36 = .ok (.goto (-32), 3) := by decide +kernel
theorem dX4_passSpring_39 : decode cX4_passSpring 39 = .ok (.aload_n 0, 1) := by decide +kernel
theorem dX4_passSpring_40 : decode cX4_passSpring 40 = .ok (.dup, 1) := by decide +kernel
theorem dX4_passSpring_41 : decode cX4_passSpring 41 = .ok (.getfield 19, 3) := by decide +kernel
theorem dX4_passSpring_44 : decode cX4_passSpring 44 = .ok (.iconst 1, 1) := by decide +kernel
theorem dX4_passSpring_45 : decode cX4_passSpring 45 = .ok (.iadd, 1) := by decide +kernel
theorem dX4_passSpring_46 : decode cX4_passSpring 46 = .ok (.putfield 19, 3) := by decide +kernel
theorem dX4_passSpring_49 : decode cX4_passSpring 49 = .ok (.iload_n 1, 1) := by decide +kernel
theorem dX4_passSpring_50 : decode cX4_passSpring 50 = .ok (.ireturn, 1) := by decide +kernel
theorem dX4_canBeRead_0 : decode cX4_canBeRead 0 = .ok (.aload_n 0, 1) := by decide +kernel
theorem dX4_canBeRead_1 : decode cX4_canBeRead 1 = .ok (.iconst 0, 1) := by decide +kernel
theorem dX4_canBeRead_2 : decode cX4_canBeRead 2 = .ok (.iload_n 1, 1) := by decide +kernel
theorem dX4_canBeRead_3 : decode cX4_canBeRead 3 = .ok (.invokevirtual 64, 3) := by decide +kernel
theorem dX4_canBeRead_6 : decode cX4_canBeRead 6 = .ok (.ireturn, 1) := by decide +kernel
theorem dX4_canBeReadIn_0 : decode cX4_canBeReadIn 0 = .ok (.iload_n 1, 1) := by decide +kernel
theorem dX4_canBeReadIn_1 : decode cX4_canBeReadIn 1 = .ok (.aload_n 0, 1) := by decide +kernel
theorem dX4_canBeReadIn_2 : decode cX4_canBeReadIn 2 = .ok (.getfield 15, 3) := by decide +kernel
theorem dX4_canBeReadIn_5 : decode cX4_canBeReadIn 5 = .ok (.getfield 57, 3) := by decide +kernel
theorem dX4_canBeReadIn_8 : decode cX4_canBeReadIn 8 = .ok (.iload_n 2, 1) := by decide +kernel
theorem dX4_canBeReadIn_9 : decode cX4_canBeReadIn 9 = .ok (.iaload, 1) := by decide +kernel
theorem dX4_canBeReadIn_10 : decode cX4_canBeReadIn 10 = .ok (.imul, 1) := by decide +kernel
theorem dX4_canBeReadIn_11 : decode cX4_canBeReadIn 11 = .ok (.istore_n 3, 1) := by decide +kernel
theorem dX4_canBeReadIn_12 : decode cX4_canBeReadIn 12 = .ok (.iconst 0, 1) := by decide +kernel
theorem dX4_canBeReadIn_13 : decode cX4_canBeReadIn 13 = .ok (.istore 4, 2) := by decide +kernel
theorem dX4_canBeReadIn_15 : decode cX4_canBeReadIn 15 = .ok (.iconst 0, 1) := by decide +kernel
theorem dX4_canBeReadIn_16 : decode cX4_canBeReadIn 16 = .ok (.istore 5, 2) := by decide +kernel
theorem dX4_canBeReadIn_18 : decode cX4_canBeReadIn 18 = .ok (.iconst 0, 1) := by decide +kernel
theorem dX4_canBeReadIn_19 : decode cX4_canBeReadIn 19 = .ok (.istore 6, 2) := by decide +kernel
theorem dX4_canBeReadIn_21 : decode cX4_canBeReadIn 21 = .ok (.iload 6, 2) := by decide +kernel
theorem dX4_canBeReadIn_23 : decode cX4_canBeReadIn 23 = .ok (.aload_n 0, 1) := by decide +kernel
theorem dX4_canBeReadIn_24 : decode cX4_canBeReadIn 24 = .ok (.getfield 15, 3) := by decide +kernel
theorem dX4_canBeReadIn_27 : decode cX4_canBeReadIn 27 = .ok (.getfield 26, 3) := by decide +kernel
theorem dX4_canBeReadIn_30 : decode cX4_canBeReadIn 30 = .ok (.if_icmp .ge 71, 3) := by decide +kernel
theorem dX4_canBeReadIn_33 : decode cX4_canBeReadIn 33 = .ok (.aload_n 0, 1) := by decide +kernel
theorem dX4_canBeReadIn_34 : decode cX4_canBeReadIn 34 = .ok (.getfield 15, 3) := by decide +kernel
theorem dX4_canBeReadIn_37 : decode cX4_canBeReadIn 37 = .ok (.getfield 46, 3) := by decide +kernel
theorem dX4_canBeReadIn_40 : decode cX4_canBeReadIn 40 = .ok (.iload 6, 2) := by decide +kernel
theorem dX4_canBeReadIn_42 : decode cX4_canBeReadIn 42 = .ok (.iaload, 1) := by decide +kernel
theorem dX4_canBeReadIn_43 : decode cX4_canBeReadIn 43 = .ok (.istore 7, 2) := by decide +kernel
theorem dX4_canBeReadIn_45 : decode cX4_canBeReadIn 45 = .ok (.iload_n 3, 1) := by decide +kernel
theorem dX4_canBeReadIn_46 : decode cX4_canBeReadIn 46 = .ok (.aload_n 0, 1) := by decide +kernel
theorem dX4_canBeReadIn_47 : decode cX4_canBeReadIn 47 = .ok (.iload_n 2, 1) := by decide +kernel
theorem dX4_canBeReadIn_48 : decode cX4_canBeReadIn 48 = .ok (.iload 7, 2) := by decide +kernel
theorem dX4_canBeReadIn_50 : decode cX4_canBeReadIn 50 = .ok (.invokevirtual 36, 3) := by decide +kernel
theorem dX4_canBeReadIn_53 : decode cX4_canBeReadIn 53 = .ok (.invokestatic 52, 3) := by decide +kernel
theorem dX4_canBeReadIn_56 : decode cX4_canBeReadIn 56 = .ok (.istore 8, 2) := by decide +kernel
theorem dX4_canBeReadIn_58 : decode cX4_canBeReadIn 58 = .ok (.iload_n 3, 1) := by decide +kernel
theorem dX4_canBeReadIn_59 : decode cX4_canBeReadIn 59 = .ok (.iload 8, 2) := by decide +kernel
theorem dX4_canBeReadIn_61 : decode cX4_canBeReadIn 61 = .ok (.isub, 1) := by decide +kernel
theorem dX4_canBeReadIn_62 : decode cX4_canBeReadIn 62 = .ok (.istore_n 3, 1) := by decide +kernel
theorem dX4_canBeReadIn_63 : decode cX4_canBeReadIn 63 = .ok (.aload_n 0, 1) := by decide +kernel
theorem dX4_canBeReadIn_64 : decode cX4_canBeReadIn 64 = .ok (.iload_n 2, 1) := by decide +kernel
theorem dX4_canBeReadIn_65 : decode cX4_canBeReadIn 65 = .ok (.iload 7, 2) := by decide +kernel
theorem dX4_canBeReadIn_67 : decode cX4_canBeReadIn 67 = .ok (.invokevirtual 36, 3) := by decide +kernel
theorem dX4_canBeReadIn_70 : decode cX4_canBeReadIn 70 = .ok (.iload 8, 2) := by decide +kernel
theorem dX4_canBeReadIn_72 : decode cX4_canBeReadIn 72 = .ok (.isub, 1) := by decide +kernel
theorem dX4_canBeReadIn_73 : decode cX4_canBeReadIn 73 = .ok (.istore 9, 2) := by decide +kernel
theorem dX4_canBeReadIn_75 : decode cX4_canBeReadIn 75 = .ok (.iload 7, 2) := by decide +kernel
theorem dX4_canBeReadIn_77 : decode cX4_canBeReadIn 77 = .ok (.iload_n 2, 1) := by decide +kernel
theorem dX4_canBeReadIn_78 : decode cX4_canBeReadIn 78 = .ok (.if_icmp .ne 10, 3) := by decide +kernel
theorem dX4_canBeReadIn_81 : decode cX4_canBeReadIn 81 = .ok (.iload 9, 2) := by decide +kernel
theorem dX4_canBeReadIn_83 : decode cX4_canBeReadIn 83 = .ok (.istore 4, 2) := by decide +kernel
theorem dX4_canBeReadIn_85 : decode cX4_canBeReadIn 85 = .ok (.goto 10, 3) := by decide +kernel
theorem dX4_canBeReadIn_88 : decode cX4_canBeReadIn 88 = .ok (.iload 5, 2) := by decide +kernel
theorem dX4_canBeReadIn_90 : decode cX4_canBeReadIn 90 = .ok (.iload 9, 2) := by decide +kernel
theorem dX4_canBeReadIn_92 : decode cX4_canBeReadIn 92 = .ok (.iadd, 1) := by decide +kernel
theorem dX4_canBeReadIn_93 : decode cX4_canBeReadIn 93 = .ok (.istore 5, 2) := by decide +kernel
theorem dX4_canBeReadIn_95 : decode cX4_canBeReadIn 95 = .ok (.iinc 6 1, 3) := by decide +kernel
theorem dX4_canBeReadIn_98 : decode cX4_canBeReadIn 98 = .ok (.goto (-77), 3) := by decide +kernel
theorem dX4_canBeReadIn_101 : decode cX4_canBeReadIn 101 = .ok (.iload 4, 2) := by decide +kernel
theorem dX4_canBeReadIn_103 : decode cX4_canBeReadIn 103 = .ok (.aload_n 0, 1) := by decide +kernel
theorem dX4_canBeReadIn_104 : decode cX4_canBeReadIn 104 = .ok (.getfield 15, 3) := by decide +kernel
theorem dX4_canBeReadIn_107 : decode cX4_canBeReadIn 107 = .ok (.getfield 68, 3) := by decide +kernel
theorem dX4_canBeReadIn_110 : decode cX4_canBeReadIn 110 = .ok (.if_icmp .lt 12, 3) := by decide +kernel
theorem dX4_canBeReadIn_113 : decode cX4_canBeReadIn 113 = .ok (.iload 5, 2) := by decide +kernel
theorem dX4_canBeReadIn_115 : decode cX4_canBeReadIn 115 = .ok (.ifCond .ne 7, 3) := by decide +kernel
theorem dX4_canBeReadIn_118 : decode cX4_canBeReadIn 118 = .ok (.iconst 1, 1) := by decide +kernel
theorem dX4_canBeReadIn_119 : decode cX4_canBeReadIn 119 = .ok (.goto 4, 3) := by decide +kernel
theorem dX4_canBeReadIn_122 : decode cX4_canBeReadIn 122 = .ok (.iconst 0, 1) := by decide +kernel
theorem dX4_canBeReadIn_123 : decode cX4_canBeReadIn 123 = .ok (.ireturn, 1) := by decide +kernel
theorem dX4_readable_0 : decode cX4_readable 0 = .ok (.iconst 0, 1) := by decide +kernel
theorem dX4_readable_1 : decode cX4_readable 1 = .ok (.istore_n 1, 1) := by decide +kernel
theorem dX4_readable_2 : decode cX4_readable 2 = .ok (.iconst 0, 1) := by decide +kernel
theorem dX4_readable_3 : decode cX4_readable 3 = .ok (.istore_n 2, 1) := by decide +kernel
theorem dX4_readable_4 : decode cX4_readable 4 = .ok (.iload_n 2, 1) := by decide +kernel
theorem dX4_readable_5 : decode cX4_readable 5 = .ok (.aload_n 0, 1) := by decide +kernel
theorem dX4_readable_6 : decode cX4_readable 6 = .ok (.getfield 15, 3) := by decide +kernel
theorem dX4_readable_9 : decode cX4_readable 9 = .ok (.getfield 26, 3) := by decide +kernel
theorem dX4_readable_12 : decode cX4_readable 12 = .ok (.if_icmp .ge 23, 3) := by decide +kernel
theorem dX4_readable_15 : decode cX4_readable 15 = .ok (.aload_n 0, 1) := by decide +kernel
theorem dX4_readable_16 : decode cX4_readable 16 = .ok (.iload_n 2, 1) := by decide +kernel
theorem dX4_readable_17 : decode cX4_readable 17 = .ok (.invokevirtual 71, 3) := by decide +kernel
theorem dX4_readable_20 : decode cX4_readable 20 = .ok (.ifCond .eq 9, 3) := by decide +kernel
theorem dX4_readable_23 : decode cX4_readable 23 = .ok (.iload_n 1, 1) := by decide +kernel
theorem dX4_readable_24 : decode cX4_readable 24 = .ok (.iconst 1, 1) := by decide +kernel
theorem dX4_readable_25 : decode cX4_readable 25 = .ok (.iload_n 2, 1) := by decide +kernel
theorem dX4_readable_26 : decode cX4_readable 26 = .ok (.ishl, 1) := by decide +kernel
theorem dX4_readable_27 : decode cX4_readable 27 = .ok (.ior, 1) := by decide +kernel
theorem dX4_readable_28 : decode cX4_readable 28 = .ok (.istore_n 1, 1) := by decide +kernel
theorem dX4_readable_29 : decode cX4_readable 29 = .ok (.iinc 2 1, 3) := by decide +kernel
theorem dX4_readable_32 : decode cX4_readable 32 = .ok (.goto (-28), 3) := by decide +kernel
theorem dX4_readable_35 : decode cX4_readable 35 = .ok (.iload_n 1, 1) := by decide +kernel
theorem dX4_readable_36 : decode cX4_readable 36 = .ok (.ireturn, 1) := by decide +kernel
theorem dX5_init_0 : decode cX5_init 0 = .ok (.aload_n 0, 1) := by decide +kernel
theorem dX5_init_1 : decode cX5_init 1 = .ok (.invokespecial 3, 3) := by decide +kernel
theorem dX5_init_4 : decode cX5_init 4 = .ok (.aload_n 0, 1) := by decide +kernel
theorem dX5_init_5 : decode cX5_init 5 = .ok (.sipush 128, 3) := by decide +kernel
theorem dX5_init_8 : decode cX5_init 8 = .ok (.newarray .int, 2) := by decide +kernel
theorem dX5_init_10 : decode cX5_init 10 = .ok (.putfield 9, 3) := by decide +kernel
theorem dX5_init_13 : decode cX5_init 13 = .ok (.aload_n 0, 1) := by decide +kernel
theorem dX5_init_14 : decode cX5_init 14 = .ok (.sipush 128, 3) := by decide +kernel
theorem dX5_init_17 : decode cX5_init 17 = .ok (.newarray .int, 2) := by decide +kernel
theorem dX5_init_19 : decode cX5_init 19 = .ok (.putfield 15, 3) := by decide +kernel
theorem dX5_init_22 : decode cX5_init 22 = .ok (.return_, 1) := by decide +kernel
theorem dX5_weigh_0 : decode cX5_weigh 0 = .ok (.aload_n 0, 1) := by decide +kernel
theorem dX5_weigh_1 : decode cX5_weigh 1 = .ok (.iconst 1, 1) := by decide +kernel
theorem dX5_weigh_2 : decode cX5_weigh 2 = .ok (.putfield 18, 3) := by decide +kernel
theorem dX5_weigh_5 : decode cX5_weigh 5 = .ok (.aload_n 0, 1) := by decide +kernel
theorem dX5_weigh_6 : decode cX5_weigh 6 = .ok (.aload_n 1, 1) := by decide +kernel
theorem dX5_weigh_7 : decode cX5_weigh 7 = .ok (.getfield 22, 3) := by decide +kernel
theorem dX5_weigh_10 : decode cX5_weigh 10 = .ok (.putfield 27, 3) := by decide +kernel
theorem dX5_weigh_13 : decode cX5_weigh 13 = .ok (.aload_n 0, 1) := by decide +kernel
theorem dX5_weigh_14 : decode cX5_weigh 14 = .ok (.aload_n 1, 1) := by decide +kernel
theorem dX5_weigh_15 : decode cX5_weigh 15 = .ok (.invokevirtual 28, 3) := by decide +kernel
theorem dX5_weigh_18 : decode cX5_weigh 18 = .ok (.putfield 32, 3) := by decide +kernel
theorem dX5_weigh_21 : decode cX5_weigh 21 = .ok (.aload_n 0, 1) := by decide +kernel
theorem dX5_weigh_22 : decode cX5_weigh 22 = .ok (.iconst 0, 1) := by decide +kernel
theorem dX5_weigh_23 : decode cX5_weigh 23 = .ok (.putfield 35, 3) := by decide +kernel
theorem dX5_weigh_26 : decode cX5_weigh 26 = .ok (.aload_n 0, 1) := by decide +kernel
theorem dX5_weigh_27 : decode cX5_weigh 27 = .ok (.getfield 9, 3) := by decide +kernel
theorem dX5_weigh_30 : decode cX5_weigh 30 = .ok (.iconst 0, 1) := by decide +kernel
theorem dX5_weigh_31 : decode cX5_weigh 31 = .ok (.iconst 0, 1) := by decide +kernel
theorem dX5_weigh_32 : decode cX5_weigh 32 = .ok (.iastore, 1) := by decide +kernel
theorem dX5_weigh_33 : decode cX5_weigh 33 = .ok (.iconst 0, 1) := by decide +kernel
theorem dX5_weigh_34 : decode cX5_weigh 34 = .ok (.istore_n 3, 1) := by decide +kernel
theorem dX5_weigh_35 : decode cX5_weigh 35 = .ok (.iload_n 3, 1) := by decide +kernel
theorem dX5_weigh_36 : decode cX5_weigh 36 = .ok (.aload_n 1, 1) := by decide +kernel
theorem dX5_weigh_37 : decode cX5_weigh 37 = .ok (.getfield 38, 3) := by decide +kernel
theorem dX5_weigh_40 : decode cX5_weigh 40 = .ok (.if_icmp .ge 84, 3) := by decide +kernel
theorem dX5_weigh_43 : decode cX5_weigh 43 = .ok (.aload_n 2, 1) := by decide +kernel
theorem dX5_weigh_44 : decode cX5_weigh 44 = .ok (.iload_n 3, 1) := by decide +kernel
theorem dX5_weigh_45 : decode cX5_weigh 45 = .ok (.invokevirtual 41, 3) := by decide +kernel
theorem dX5_weigh_48 : decode cX5_weigh 48 = .ok (.istore 4, 2) := by decide +kernel
theorem dX5_weigh_50 : decode cX5_weigh 50 = .ok (.iconst 0, 1) := by decide +kernel
theorem dX5_weigh_51 : decode cX5_weigh 51 = .ok (.istore 5, 2) := by decide +kernel
theorem dX5_weigh_53 : decode cX5_weigh 53 = .ok (.iload 5, 2) := by decide +kernel
theorem dX5_weigh_55 : decode cX5_weigh 55 = .ok (.aload_n 0, 1) := by decide +kernel
theorem dX5_weigh_56 : decode cX5_weigh 56 = .ok (.getfield 18, 3) := by decide +kernel
theorem dX5_weigh_59 : decode cX5_weigh 59 = .ok (.if_icmp .ge 31, 3) := by decide +kernel
theorem dX5_weigh_62 : decode cX5_weigh 62 = .ok (.aload_n 0, 1) := by decide +kernel
theorem dX5_weigh_63 : decode cX5_weigh 63 = .ok (.getfield 9, 3) := by decide +kernel
theorem dX5_weigh_66 : decode cX5_weigh 66 = .ok (.aload_n 0, 1) := by decide +kernel
theorem dX5_weigh_67 : decode cX5_weigh 67 = .ok (.getfield 18, 3) := by decide +kernel
theorem dX5_weigh_70 : decode cX5_weigh 70 = .ok (.iload 5, 2) := by decide +kernel
theorem dX5_weigh_72 : decode cX5_weigh 72 = .ok (.iadd, 1) := by decide +kernel
theorem dX5_weigh_73 : decode cX5_weigh 73 = .ok (.aload_n 0, 1) := by decide +kernel
theorem dX5_weigh_74 : decode cX5_weigh 74 = .ok (.getfield 9, 3) := by decide +kernel
theorem dX5_weigh_77 : decode cX5_weigh 77 = .ok (.iload 5, 2) := by decide +kernel
theorem dX5_weigh_79 : decode cX5_weigh 79 = .ok (.iaload, 1) := by decide +kernel
theorem dX5_weigh_80 : decode cX5_weigh 80 = .ok (.iload 4, 2) := by decide +kernel
theorem dX5_weigh_82 : decode cX5_weigh 82 = .ok (.iadd, 1) := by decide +kernel
theorem dX5_weigh_83 : decode cX5_weigh 83 = .ok (.iastore, 1) := by decide +kernel
theorem dX5_weigh_84 : decode cX5_weigh 84 = .ok (.iinc 5 1, 3) := by decide +kernel
theorem dX5_weigh_87 : decode cX5_weigh 87 = .ok (.goto (-34), 3) := by decide +kernel
theorem dX5_weigh_90 : decode cX5_weigh 90 = .ok (.iload 4, 2) := by decide +kernel
theorem dX5_weigh_92 : decode cX5_weigh 92 = .ok (.ifCond .le 16, 3) := by decide +kernel
theorem dX5_weigh_95 : decode cX5_weigh 95 = .ok (.aload_n 0, 1) := by decide +kernel
theorem dX5_weigh_96 : decode cX5_weigh 96 = .ok (.dup, 1) := by decide +kernel
theorem dX5_weigh_97 : decode cX5_weigh 97 = .ok (.getfield 35, 3) := by decide +kernel
theorem dX5_weigh_100 : decode cX5_weigh 100 = .ok (.aload_n 0, 1) := by decide +kernel
theorem dX5_weigh_101 : decode cX5_weigh 101 = .ok (.getfield 18, 3) := by decide +kernel
theorem dX5_weigh_104 : decode cX5_weigh 104 = .ok (.ior, 1) := by decide +kernel
theorem dX5_weigh_105 : decode cX5_weigh 105 = .ok (.putfield 35, 3) := by decide +kernel
theorem dX5_weigh_108 : decode cX5_weigh 108 = .ok (.aload_n 0, 1) := by decide +kernel
theorem dX5_weigh_109 : decode cX5_weigh 109 = .ok (.dup, 1) := by decide +kernel
theorem dX5_weigh_110 : decode cX5_weigh 110 = .ok (.getfield 18, 3) := by decide +kernel
theorem dX5_weigh_113 : decode cX5_weigh 113 = .ok (.iconst 2, 1) := by decide +kernel
theorem dX5_weigh_114 : decode cX5_weigh 114 = .ok (.imul, 1) := by decide +kernel
theorem dX5_weigh_115 : decode cX5_weigh 115 = .ok (.putfield 18, 3) := by decide +kernel
theorem dX5_weigh_118 : decode cX5_weigh 118 = .ok (.iinc 3 1, 3) := by decide +kernel
theorem dX5_weigh_121 : decode cX5_weigh 121 = .ok (.goto (-86), 3) := by decide +kernel
theorem dX5_weigh_124 : decode cX5_weigh 124 = .ok (.return_, 1) := by decide +kernel
theorem dX5_countLeft_0 : decode cX5_countLeft 0 = .ok (.iload_n 0, 1) := by decide +kernel
theorem dX5_countLeft_1 : decode cX5_countLeft 1 = .ok (.iload_n 1, 1) := by decide +kernel
theorem dX5_countLeft_2 : decode cX5_countLeft 2 = .ok (.iconst (-1), 1) := by decide +kernel
theorem dX5_countLeft_3 : decode cX5_countLeft 3 = .ok (.ixor, 1) := by decide +kernel
theorem dX5_countLeft_4 : decode cX5_countLeft 4 = .ok (.iand, 1) := by decide +kernel
theorem dX5_countLeft_5 : decode cX5_countLeft 5 = .ok (.invokestatic 47, 3) := by decide +kernel
theorem dX5_countLeft_8 : decode cX5_countLeft 8 = .ok (.ireturn, 1) := by decide +kernel
theorem dX5_bestFire_0 : decode cX5_bestFire 0 = .ok (.bipush (-9), 2) := by decide +kernel
theorem dX5_bestFire_2 : decode cX5_bestFire 2 = .ok (.istore_n 3, 1) := by decide +kernel
theorem dX5_bestFire_3 : decode cX5_bestFire 3 = .ok (.iconst 1, 1) := by decide +kernel
theorem dX5_bestFire_4 : decode cX5_bestFire 4 = .ok (.istore 4, 2) := by decide +kernel
theorem dX5_bestFire_6 : decode cX5_bestFire 6 = .ok (.iload 4, 2) := by decide +kernel
theorem dX5_bestFire_8 : decode cX5_bestFire 8 = .ok (.aload_n 0, 1) := by decide +kernel
theorem dX5_bestFire_9 : decode cX5_bestFire 9 = .ok (.getfield 18, 3) := by decide +kernel
theorem dX5_bestFire_12 : decode cX5_bestFire 12 = .ok (.if_icmp .ge 40, 3) := by decide +kernel
theorem dX5_bestFire_15 : decode cX5_bestFire 15 = .ok (.aload_n 0, 1) := by decide +kernel
theorem dX5_bestFire_16 : decode cX5_bestFire 16 = .ok (.getfield 9, 3) := by decide +kernel
theorem dX5_bestFire_19 : decode cX5_bestFire 19 = .ok (.iload 4, 2) := by decide +kernel
theorem dX5_bestFire_21 : decode cX5_bestFire 21 = .ok (.iaload, 1) := by decide +kernel
theorem dX5_bestFire_22 : decode cX5_bestFire 22 = .ok (.iload_n 1, 1) := by decide +kernel
theorem dX5_bestFire_23 : decode cX5_bestFire 23 = .ok (.if_icmp .lt 23, 3) := by decide +kernel
theorem dX5_bestFire_26 : decode cX5_bestFire 26 = .ok (.iload_n 3, 1) := by decide +kernel
theorem dX5_bestFire_27 : decode cX5_bestFire 27 = .ok (.bipush (-9), 2) := by decide +kernel
theorem dX5_bestFire_29 : decode cX5_bestFire 29 = .ok (.if_icmp .eq 14, 3) := by decide +kernel
theorem dX5_bestFire_32 : decode cX5_bestFire 32 = .ok (.aload_n 0, 1) := by decide +kernel
theorem dX5_bestFire_33 : decode cX5_bestFire 33 = .ok (.iload 4, 2) := by decide +kernel
theorem dX5_bestFire_35 : decode cX5_bestFire 35 = .ok (.iload_n 3, 1) := by decide +kernel
theorem dX5_bestFire_36 : decode cX5_bestFire 36 = .ok (.iload_n 2, 1) := by decide +kernel
theorem dX5_bestFire_37 : decode cX5_bestFire 37 = .ok (.invokevirtual 52, 3) := by decide +kernel
theorem dX5_bestFire_40 : decode cX5_bestFire 40 = .ok (.ifCond .eq 6, 3) := by decide +kernel
theorem dX5_bestFire_43 : decode cX5_bestFire 43 = .ok (.iload 4, 2) := by decide +kernel
theorem dX5_bestFire_45 : decode cX5_bestFire 45 = .ok (.istore_n 3, 1) := by decide +kernel
theorem dX5_bestFire_46 : decode cX5_bestFire 46 = .ok (.iinc 4 1, 3) := by decide +kernel
theorem dX5_bestFire_49 : decode cX5_bestFire 49 = .ok (.goto (-43), 3) := by decide +kernel
theorem dX5_bestFire_52 : decode cX5_bestFire 52 = .ok (.iload_n 3, 1) := by decide +kernel
theorem dX5_bestFire_53 : decode cX5_bestFire 53 = .ok (.ireturn, 1) := by decide +kernel
theorem dX5_isBetterFire_0 : decode cX5_isBetterFire 0 = .ok (.iload_n 3, 1) := by decide +kernel
theorem dX5_isBetterFire_1 : decode cX5_isBetterFire 1 = .ok (.iload_n 1, 1) := by decide +kernel
theorem dX5_isBetterFire_2 : decode cX5_isBetterFire 2 = .ok (.invokestatic 56, 3) := by decide +kernel
theorem dX5_isBetterFire_5 : decode cX5_isBetterFire 5 = .ok (.iload_n 3, 1) := by decide +kernel
theorem dX5_isBetterFire_6 : decode cX5_isBetterFire 6 = .ok (.iload_n 2, 1) := by decide +kernel
theorem dX5_isBetterFire_7 : decode cX5_isBetterFire 7 = .ok (.invokestatic 56, 3) := by decide +kernel
theorem dX5_isBetterFire_10 : decode cX5_isBetterFire 10 = .ok (.isub, 1) := by decide +kernel
theorem dX5_isBetterFire_11 : decode cX5_isBetterFire 11 = .ok (.istore 4, 2) := by decide +kernel
theorem dX5_isBetterFire_13 : decode cX5_isBetterFire 13 = .ok (.iload 4, 2) := by decide +kernel
theorem dX5_isBetterFire_15 : decode cX5_isBetterFire 15 = .ok (.ifCond .gt 23, 3) := by decide +kernel
theorem dX5_isBetterFire_18 : decode cX5_isBetterFire 18 = .ok (.iload 4, 2) := by decide +kernel
theorem dX5_isBetterFire_20 : decode cX5_isBetterFire 20 = .ok (.ifCond .ne 22, 3) := by decide +kernel
theorem dX5_isBetterFire_23 : decode cX5_isBetterFire 23 = .ok (.aload_n 0, 1) := by decide +kernel
theorem dX5_isBetterFire_24 : decode cX5_isBetterFire 24 = .ok (.getfield 9, 3) := by decide +kernel
theorem dX5_isBetterFire_27 : decode cX5_isBetterFire 27 = .ok (.iload_n 1, 1) := by decide +kernel
theorem dX5_isBetterFire_28 : decode cX5_isBetterFire 28 = .ok (.iaload, 1) := by decide +kernel
theorem dX5_isBetterFire_29 : decode cX5_isBetterFire 29 = .ok (.aload_n 0, 1) := by decide +kernel
theorem dX5_isBetterFire_30 : decode cX5_isBetterFire 30 = .ok (.getfield 9, 3) := by decide +kernel
theorem dX5_isBetterFire_33 : decode cX5_isBetterFire 33 = .ok (.iload_n 2, 1) := by decide +kernel
theorem dX5_isBetterFire_34 : decode cX5_isBetterFire 34 = .ok (.iaload, 1) := by decide +kernel
theorem dX5_isBetterFire_35 : decode cX5_isBetterFire 35 = .ok (.if_icmp .ge 7, 3) := by decide +kernel
theorem dX5_isBetterFire_38 : decode cX5_isBetterFire 38 = .ok (.iconst 1, 1) := by decide +kernel
theorem dX5_isBetterFire_39 : decode cX5_isBetterFire 39 = .ok (.goto 4, 3) := by decide +kernel
theorem dX5_isBetterFire_42 : decode cX5_isBetterFire 42 = .ok (.iconst 0, 1) := by decide +kernel
theorem dX5_isBetterFire_43 : decode cX5_isBetterFire 43 = .ok (.ireturn, 1) := by decide +kernel
theorem dX5_fitsOneShelf_0 : decode cX5_fitsOneShelf 0 = .ok (.iload_n 1, 1) := by decide +kernel
theorem dX5_fitsOneShelf_1 : decode cX5_fitsOneShelf 1 = .ok (.aload_n 0, 1) := by decide +kernel
theorem dX5_fitsOneShelf_2 : decode cX5_fitsOneShelf 2 = .ok (.getfield 32, 3) := by decide +kernel
theorem dX5_fitsOneShelf_5 : decode cX5_fitsOneShelf 5 = .ok (.iand, 1) := by decide +kernel
theorem dX5_fitsOneShelf_6 : decode cX5_fitsOneShelf 6 = .ok (.istore_n 2, 1) := by decide +kernel
theorem dX5_fitsOneShelf_7 : decode cX5_fitsOneShelf 7 = .ok (.aload_n 0, 1) := by decide +kernel
theorem dX5_fitsOneShelf_8 : decode cX5_fitsOneShelf 8 = .ok (.getfield 9, 3) := by decide +kernel
theorem dX5_fitsOneShelf_11 : decode cX5_fitsOneShelf 11 = .ok (.iload_n 1, 1) := by decide +kernel
theorem dX5_fitsOneShelf_12 : decode cX5_fitsOneShelf 12 = .ok (.iaload, 1) := by decide +kernel
theorem dX5_fitsOneShelf_13 : decode cX5_fitsOneShelf 13 = .ok (.aload_n 0, 1) := by decide +kernel
theorem dX5_fitsOneShelf_14 : decode cX5_fitsOneShelf 14 = .ok (.getfield 27, 3) := by decide +kernel
theorem dX5_fitsOneShelf_17 : decode cX5_fitsOneShelf 17 = .ok (.if_icmp .gt 16, 3) := by decide +kernel
theorem dX5_fitsOneShelf_20 : decode cX5_fitsOneShelf 20 = .ok (.iload_n 2, 1) := by decide +kernel
theorem dX5_fitsOneShelf_21 : decode cX5_fitsOneShelf 21 = .ok (.ifCond .eq 8, 3) := by decide +kernel
theorem dX5_fitsOneShelf_24 : decode cX5_fitsOneShelf 24 = .ok (.iload_n 2, 1) := by decide +kernel
theorem dX5_fitsOneShelf_25 : decode cX5_fitsOneShelf 25 = .ok (.iload_n 1, 1) := by decide +kernel
theorem dX5_fitsOneShelf_26 : decode cX5_fitsOneShelf 26 = .ok (.if_icmp .ne 7, 3) := by decide +kernel
theorem dX5_fitsOneShelf_29 : decode cX5_fitsOneShelf 29 = .ok (.iconst 1, 1) := by decide +kernel
theorem dX5_fitsOneShelf_30 : decode cX5_fitsOneShelf 30 = .ok (.goto 4, 3) := by decide +kernel
theorem dX5_fitsOneShelf_33 : decode cX5_fitsOneShelf 33 = .ok (.iconst 0, 1) := by decide +kernel
theorem dX5_fitsOneShelf_34 : decode cX5_fitsOneShelf 34 = .ok (.ireturn, 1) := by decide +kernel
theorem dX5_isFilled_0 : decode cX5_isFilled 0 = .ok (.iload_n 1, 1) := by decide +kernel
theorem dX5_isFilled_1 : decode cX5_isFilled 1 = .ok (.aload_n 0, 1) := by decide +kernel
theorem dX5_isFilled_2 : decode cX5_isFilled 2 = .ok (.getfield 35, 3) := by decide +kernel
theorem dX5_isFilled_5 : decode cX5_isFilled 5 = .ok (.iconst (-1), 1) := by decide +kernel
theorem dX5_isFilled_6 : decode cX5_isFilled 6 = .ok (.ixor, 1) := by decide +kernel
theorem dX5_isFilled_7 : decode cX5_isFilled 7 = .ok (.iand, 1) := by decide +kernel
theorem dX5_isFilled_8 : decode cX5_isFilled 8 = .ok (.ifCond .ne 7, 3) := by decide +kernel
theorem dX5_isFilled_11 : decode cX5_isFilled 11 = .ok (.iconst 1, 1) := by decide +kernel
theorem dX5_isFilled_12 : decode cX5_isFilled 12 = .ok (.goto 4, 3) := by decide +kernel
theorem dX5_isFilled_15 : decode cX5_isFilled 15 = .ok (.iconst 0, 1) := by decide +kernel
theorem dX5_isFilled_16 : decode cX5_isFilled 16 = .ok (.ireturn, 1) := by decide +kernel
theorem dX5_fewestShelves_0 : decode cX5_fewestShelves 0 = .ok (.iconst 1, 1) := by decide +kernel
theorem dX5_fewestShelves_1 : decode cX5_fewestShelves 1 = .ok (.istore_n 1, 1) := by decide +kernel
theorem dX5_fewestShelves_2 : decode cX5_fewestShelves 2 = .ok (.iload_n 1, 1) := by decide +kernel
theorem dX5_fewestShelves_3 : decode cX5_fewestShelves 3 = .ok (.aload_n 0, 1) := by decide +kernel
theorem dX5_fewestShelves_4 : decode cX5_fewestShelves 4 = .ok (.getfield 18, 3) := by decide +kernel
theorem dX5_fewestShelves_7 : decode cX5_fewestShelves 7 = .ok (.if_icmp .ge 26, 3) := by decide +kernel
theorem dX5_fewestShelves_10 : decode cX5_fewestShelves 10 = .ok (.aload_n 0, 1) := by decide +kernel
theorem dX5_fewestShelves_11 : decode cX5_fewestShelves 11 = .ok (.getfield 9, 3) := by decide +kernel
theorem dX5_fewestShelves_14 : decode cX5_fewestShelves 14 = .ok (.iload_n 1, 1) := by decide +kernel
theorem dX5_fewestShelves_15 : decode cX5_fewestShelves 15 = .ok (.iaload, 1) := by decide +kernel
theorem dX5_fewestShelves_16 : decode cX5_fewestShelves 16 = .ok (.aload_n 0, 1) := by decide +kernel
theorem dX5_fewestShelves_17 : decode cX5_fewestShelves 17 = .ok (.getfield 27, 3) := by decide +kernel
theorem dX5_fewestShelves_20 : decode cX5_fewestShelves 20 = .ok (.if_icmp .le 6, 3) := by decide +kernel
theorem dX5_fewestShelves_23 : decode cX5_fewestShelves 23 = .ok (.bipush (-9), 2) := by decide +kernel
theorem dX5_fewestShelves_25 : decode cX5_fewestShelves 25 = .ok (.ireturn, 1) := by decide +kernel
theorem dX5_fewestShelves_26 : decode cX5_fewestShelves 26 = .ok (.iload_n 1, 1) := by decide +kernel
theorem dX5_fewestShelves_27 : decode cX5_fewestShelves 27 = .ok (.iconst 2, 1) := by decide +kernel
theorem dX5_fewestShelves_28 : decode cX5_fewestShelves 28 = .ok (.imul, 1) := by decide +kernel
theorem dX5_fewestShelves_29 : decode cX5_fewestShelves 29 = .ok (.istore_n 1, 1) := by decide +kernel
theorem dX5_fewestShelves_30 : decode cX5_fewestShelves 30 = .ok (.goto (-28), 3) := by decide +kernel
theorem dX5_fewestShelves_33 : decode cX5_fewestShelves 33 = .ok (.aload_n 0, 1) := by decide +kernel
theorem dX5_fewestShelves_34 : decode cX5_fewestShelves 34 = .ok (.getfield 15, 3) := by decide +kernel
theorem dX5_fewestShelves_37 : decode cX5_fewestShelves 37 = .ok (.iconst 0, 1) := by decide +kernel
theorem dX5_fewestShelves_38 : decode cX5_fewestShelves 38 = .ok (.iconst 0, 1) := by decide +kernel
theorem dX5_fewestShelves_39 : decode cX5_fewestShelves 39 = .ok (.iastore, 1) := by decide +kernel
theorem dX5_fewestShelves_40 : decode cX5_fewestShelves 40 = .ok (.iconst 1, 1) := by decide +kernel
theorem dX5_fewestShelves_41 : decode cX5_fewestShelves 41 = .ok (.istore_n 1, 1) := by decide +kernel
theorem dX5_fewestShelves_42 : decode cX5_fewestShelves 42 = .ok (.iload_n 1, 1) := by decide +kernel
theorem dX5_fewestShelves_43 : decode cX5_fewestShelves 43 = .ok (.aload_n 0, 1) := by decide +kernel
theorem dX5_fewestShelves_44 : decode cX5_fewestShelves 44 = .ok (.getfield 18, 3) := by decide +kernel
theorem dX5_fewestShelves_47 : decode cX5_fewestShelves 47 = .ok (.if_icmp .ge 28, 3) := by decide +kernel
theorem dX5_fewestShelves_50 : decode cX5_fewestShelves 50 = .ok (.aload_n 0, 1) := by decide +kernel
theorem dX5_fewestShelves_51 : decode cX5_fewestShelves 51 = .ok (.iload_n 1, 1) := by decide +kernel
theorem dX5_fewestShelves_52 : decode cX5_fewestShelves 52 = .ok (.invokevirtual 60, 3) := by decide +kernel
theorem dX5_fewestShelves_55 : decode cX5_fewestShelves 55 = .ok (.ifCond .eq 14, 3) := by decide +kernel
theorem dX5_fewestShelves_58 : decode cX5_fewestShelves 58 = .ok (.aload_n 0, 1) := by decide +kernel
theorem dX5_fewestShelves_59 : decode cX5_fewestShelves 59 = .ok (.getfield 15, 3) := by decide +kernel
theorem dX5_fewestShelves_62 : decode cX5_fewestShelves 62 = .ok (.iload_n 1, 1) := by decide +kernel
theorem dX5_fewestShelves_63 : decode cX5_fewestShelves 63 = .ok (.aload_n 0, 1) := by decide +kernel
theorem dX5_fewestShelves_64 : decode cX5_fewestShelves 64 = .ok (.iload_n 1, 1) := by decide +kernel
theorem dX5_fewestShelves_65 : decode cX5_fewestShelves 65 = .ok (.invokevirtual 64, 3) := by decide +kernel
theorem dX5_fewestShelves_68 : decode cX5_fewestShelves 68 = .ok (.iastore, 1) := by decide +kernel
theorem dX5_fewestShelves_69 : decode cX5_fewestShelves 69 = .ok (.iinc 1 1, 3) := by decide +kernel
theorem dX5_fewestShelves_72 : decode cX5_fewestShelves 72 = .ok (.goto (-30), 3) := by decide +kernel
theorem dX5_fewestShelves_75 : decode cX5_fewestShelves 75 = .ok (.aload_n 0, 1) := by decide +kernel
theorem dX5_fewestShelves_76 : decode cX5_fewestShelves 76 = .ok (.getfield 15, 3) := by decide +kernel
theorem dX5_fewestShelves_79 : decode cX5_fewestShelves 79 = .ok (.aload_n 0, 1) := by decide +kernel
theorem dX5_fewestShelves_80 : decode cX5_fewestShelves 80 = .ok (.getfield 35, 3) := by decide +kernel
theorem dX5_fewestShelves_83 : decode cX5_fewestShelves 83 = .ok (.iaload, 1) := by decide +kernel
theorem dX5_fewestShelves_84 : decode cX5_fewestShelves 84 = .ok (.ireturn, 1) := by decide +kernel
theorem dX5_fewestFor_0 : decode cX5_fewestFor 0 = .ok (.bipush 7, 2) := by decide +kernel
theorem dX5_fewestFor_2 : decode cX5_fewestFor 2 = .ok (.istore_n 2, 1) := by decide +kernel
theorem dX5_fewestFor_3 : decode cX5_fewestFor 3 = .ok (.iload_n 1, 1) := by decide +kernel
theorem dX5_fewestFor_4 : decode cX5_fewestFor 4 = .ok (.istore_n 3, 1) := by decide +kernel
theorem dX5_fewestFor_5 : decode cX5_fewestFor 5 = .ok (.iload_n 3, 1) := by decide +kernel
theorem dX5_fewestFor_6 : decode cX5_fewestFor 6 = .ok (.ifCond .le 35, 3) := by decide +kernel
theorem dX5_fewestFor_9 : decode cX5_fewestFor 9 = .ok (.aload_n 0, 1) := by decide +kernel
theorem dX5_fewestFor_10 : decode cX5_fewestFor 10 = .ok (.iload_n 3, 1) := by decide +kernel
theorem dX5_fewestFor_11 : decode cX5_fewestFor 11 = .ok (.invokevirtual 67, 3) := by decide +kernel
theorem dX5_fewestFor_14 : decode cX5_fewestFor 14 = .ok (.ifCond .eq 18, 3) := by decide +kernel
theorem dX5_fewestFor_17 : decode cX5_fewestFor 17 = .ok (.iload_n 2, 1) := by decide +kernel
theorem dX5_fewestFor_18 : decode cX5_fewestFor 18 = .ok (.aload_n 0, 1) := by decide +kernel
theorem dX5_fewestFor_19 : decode cX5_fewestFor 19 = .ok (.getfield 15, 3) := by decide +kernel
theorem dX5_fewestFor_22 : decode cX5_fewestFor 22 = .ok (.iload_n 1, 1) := by decide +kernel
theorem dX5_fewestFor_23 : decode cX5_fewestFor 23 = .ok (.iload_n 3, 1) := by decide +kernel
theorem dX5_fewestFor_24 : decode cX5_fewestFor 24 = .ok (.ixor, 1) := by decide +kernel
theorem dX5_fewestFor_25 : decode cX5_fewestFor 25 = .ok (.iaload, 1) := by decide +kernel
theorem dX5_fewestFor_26 : decode cX5_fewestFor 26 = .ok (.iconst 1, 1) := by decide +kernel
theorem dX5_fewestFor_27 : decode cX5_fewestFor 27 = .ok (.iadd, 1) := by decide +kernel
theorem dX5_fewestFor_28 : decode cX5_fewestFor 28 = .ok (.invokestatic 70, 3) := by decide +kernel
theorem dX5_fewestFor_31 : decode cX5_fewestFor 31 = .ok (.istore_n 2, 1) := by decide +kernel
theorem dX5_fewestFor_32 : decode cX5_fewestFor 32 = .ok (.iload_n 3, 1) := by decide +kernel
theorem dX5_fewestFor_33 : decode cX5_fewestFor 33 = .ok (.iconst 1, 1) := by decide +kernel
theorem dX5_fewestFor_34 : decode cX5_fewestFor 34 = .ok (.isub, 1) := by decide +kernel
theorem dX5_fewestFor_35 : decode cX5_fewestFor 35 = .ok (.iload_n 1, 1) := by decide +kernel
theorem dX5_fewestFor_36 : decode cX5_fewestFor 36 = .ok (.iand, 1) := by decide +kernel
theorem dX5_fewestFor_37 : decode cX5_fewestFor 37 = .ok (.istore_n 3, 1) := by decide +kernel
theorem dX5_fewestFor_38 : decode cX5_fewestFor 38 = .ok (.goto (-33), 3) := by decide +kernel
theorem dX5_fewestFor_41 : decode cX5_fewestFor 41 = .ok (.iload_n 2, 1) := by decide +kernel
theorem dX5_fewestFor_42 : decode cX5_fewestFor 42 = .ok (.ireturn, 1) := by decide +kernel
theorem dX5_mostBeside_0 : decode cX5_mostBeside 0 = .ok (.iconst 0, 1) := by decide +kernel
theorem dX5_mostBeside_1 : decode cX5_mostBeside 1 = .ok (.istore_n 2, 1) := by decide +kernel
theorem dX5_mostBeside_2 : decode cX5_mostBeside 2 = .ok (.iconst 1, 1) := by decide +kernel
theorem dX5_mostBeside_3 : decode cX5_mostBeside 3 = .ok (.istore_n 3, 1) := by decide +kernel
theorem dX5_mostBeside_4 : decode cX5_mostBeside 4 = .ok (.iload_n 3, 1) := by decide +kernel
theorem dX5_mostBeside_5 : decode cX5_mostBeside 5 = .ok (.aload_n 0, 1) := by decide +kernel
theorem dX5_mostBeside_6 : decode cX5_mostBeside 6 = .ok (.getfield 18, 3) := by decide +kernel
theorem dX5_mostBeside_9 : decode cX5_mostBeside 9 = .ok (.if_icmp .ge 55, 3) := by decide +kernel
theorem dX5_mostBeside_12 : decode cX5_mostBeside 12 = .ok (.iload_n 3, 1) := by decide +kernel
theorem dX5_mostBeside_13 : decode cX5_mostBeside 13 = .ok (.iload_n 1, 1) := by decide +kernel
theorem dX5_mostBeside_14 : decode cX5_mostBeside 14 = .ok (.ishr, 1) := by decide +kernel
theorem dX5_mostBeside_15 : decode cX5_mostBeside 15 = .ok (.iconst 1, 1) := by decide +kernel
theorem dX5_mostBeside_16 : decode cX5_mostBeside 16 = .ok (.iand, 1) := by decide +kernel
theorem dX5_mostBeside_17 : decode cX5_mostBeside 17 = .ok (.iconst 1, 1) := by decide +kernel
theorem dX5_mostBeside_18 : decode cX5_mostBeside 18 = .ok (.if_icmp .ne 7, 3) := by decide +kernel
theorem dX5_mostBeside_21 : decode cX5_mostBeside 21 = .ok (.iconst 1, 1) := by decide +kernel
theorem dX5_mostBeside_22 : decode cX5_mostBeside 22 = .ok (.goto 4, 3) := by decide +kernel
theorem dX5_mostBeside_25 : decode cX5_mostBeside 25 = .ok (.iconst 0, 1) := by decide +kernel
theorem dX5_mostBeside_26 : decode cX5_mostBeside 26 = .ok (.istore 4, 2) := by decide +kernel
theorem dX5_mostBeside_28 : decode cX5_mostBeside 28 = .ok (.iload 4, 2) := by decide +kernel
theorem dX5_mostBeside_30 : decode cX5_mostBeside 30 = .ok (.ifCond .eq 28, 3) := by decide +kernel
theorem dX5_mostBeside_33 : decode cX5_mostBeside 33 = .ok (.aload_n 0, 1) := by decide +kernel
theorem dX5_mostBeside_34 : decode cX5_mostBeside 34 = .ok (.iload_n 3, 1) := by decide +kernel
theorem dX5_mostBeside_35 : decode cX5_mostBeside 35 = .ok (.invokevirtual 60, 3) := by decide +kernel
theorem dX5_mostBeside_38 : decode cX5_mostBeside 38 = .ok (.ifCond .eq 20, 3) := by decide +kernel
theorem dX5_mostBeside_41 : decode cX5_mostBeside 41 = .ok (.aload_n 0, 1) := by decide +kernel
theorem dX5_mostBeside_42 : decode cX5_mostBeside 42 = .ok (.iload_n 3, 1) := by decide +kernel
theorem dX5_mostBeside_43 : decode cX5_mostBeside 43 = .ok (.invokevirtual 67, 3) := by decide +kernel
theorem dX5_mostBeside_46 : decode cX5_mostBeside 46 = .ok (.ifCond .eq 12, 3) := by decide +kernel
theorem dX5_mostBeside_49 : decode cX5_mostBeside 49 = .ok (.iload_n 2, 1) := by decide +kernel
theorem dX5_mostBeside_50 : decode cX5_mostBeside 50 = .ok (.iload_n 3, 1) := by decide +kernel
theorem dX5_mostBeside_51 : decode cX5_mostBeside 51 = .ok (.invokestatic 47, 3) := by decide +kernel
theorem dX5_mostBeside_54 : decode cX5_mostBeside 54 = .ok (.invokestatic 75, 3) := by decide +kernel
theorem dX5_mostBeside_57 : decode cX5_mostBeside 57 = .ok (.istore_n 2, 1) := by decide +kernel
theorem dX5_mostBeside_58 : decode cX5_mostBeside 58 = .ok (.iinc 3 1, 3) := by decide +kernel
theorem dX5_mostBeside_61 : decode cX5_mostBeside 61 = .ok (.goto (-57), 3) := by decide +kernel
theorem dX5_mostBeside_64 : decode cX5_mostBeside 64 = .ok (.iload_n 2, 1) := by decide +kernel
theorem dX5_mostBeside_65 : decode cX5_mostBeside 65 = .ok (.ifCond .ne 8, 3) := by decide +kernel
theorem dX5_mostBeside_68 : decode cX5_mostBeside 68 = .ok (.bipush (-9), 2) := by decide +kernel
theorem dX5_mostBeside_70 : decode cX5_mostBeside 70 = .ok (.goto 6, 3) := by decide +kernel
theorem dX5_mostBeside_73 : decode cX5_mostBeside 73 = .ok (.iload_n 2, 1) := by decide +kernel
theorem dX5_mostBeside_74 : decode cX5_mostBeside 74 = .ok (.iconst 1, 1) := by decide +kernel
theorem dX5_mostBeside_75 : decode cX5_mostBeside 75 = .ok (.isub, 1) := by decide +kernel
theorem dX5_mostBeside_76 : decode cX5_mostBeside 76 = .ok (.ireturn, 1) := by decide +kernel
theorem dX6_init_0 : decode cX6_init 0 = .ok (.aload_n 0, 1) := by decide +kernel
theorem dX6_init_1 : decode cX6_init 1 = .ok (.invokespecial 3, 3) := by decide +kernel
theorem dX6_init_4 : decode cX6_init 4 = .ok (.aload_n 0, 1) := by decide +kernel
theorem dX6_init_5 : decode cX6_init 5 = .ok (.sipush 200, 3) := by decide +kernel
theorem dX6_init_8 : decode cX6_init 8 = .ok (.newarray .int, 2) := by decide +kernel
theorem dX6_init_10 : decode cX6_init 10 = .ok (.putfield 9, 3) := by decide +kernel
theorem dX6_init_13 : decode cX6_init 13 = .ok (.aload_n 0, 1) := by decide +kernel
theorem dX6_init_14 : decode cX6_init 14 = .ok (.new 15, 3) := by decide +kernel
theorem dX6_init_17 : decode cX6_init 17 = .ok (.dup, 1) := by decide +kernel
theorem dX6_init_18 : decode cX6_init 18 = .ok (.invokespecial 17, 3) := by decide +kernel
theorem dX6_init_21 : decode cX6_init 21 = .ok (.putfield 18, 3) := by decide +kernel
theorem dX6_init_24 : decode cX6_init 24 = .ok (.return_, 1) := by decide +kernel
theorem dX6_append_0 : decode cX6_append 0 = .ok (.aload_n 0, 1) := by decide +kernel
theorem dX6_append_1 : decode cX6_append 1 = .ok (.getfield 22, 3) := by decide +kernel
theorem dX6_append_4 : decode cX6_append 4 = .ok (.sipush 200, 3) := by decide +kernel
theorem dX6_append_7 : decode cX6_append 7 = .ok (.if_icmp .lt 5, 3) := by decide +kernel
theorem dX6_append_10 : decode cX6_append 10 = .ok (.iconst 0, 1) := by decide +kernel
theorem dX6_append_11 : decode cX6_append 11 = .ok (.ireturn, 1) := by decide +kernel
theorem dX6_append_12 : decode cX6_append 12 = .ok (.aload_n 0, 1) := by decide +kernel
theorem dX6_append_13 : decode cX6_append 13 = .ok (.getfield 9, 3) := by decide +kernel
theorem dX6_append_16 : decode cX6_append 16 = .ok (.aload_n 0, 1) := by decide +kernel
theorem dX6_append_17 : decode cX6_append 17 = .ok (.getfield 22, 3) := by decide +kernel
theorem dX6_append_20 : decode cX6_append 20 = .ok (.iload_n 1, 1) := by decide +kernel
theorem dX6_append_21 : decode cX6_append 21 = .ok (.iastore, 1) := by decide +kernel
theorem dX6_append_22 : decode cX6_append 22 = .ok (.aload_n 0, 1) := by decide +kernel
theorem dX6_append_23 : decode cX6_append 23 = .ok (.dup, 1) := by decide +kernel
theorem dX6_append_24 : decode cX6_append 24 = .ok (.getfield 22, 3) := by decide +kernel
theorem dX6_append_27 : decode cX6_append 27 = .ok (.iconst 1, 1) := by decide +kernel
theorem dX6_append_28 : decode cX6_append 28 = .ok (.iadd, 1) := by decide +kernel
theorem dX6_append_29 : decode cX6_append 29 = .ok (.putfield 22, 3) := by decide +kernel
theorem dX6_append_32 : decode cX6_append 32 = .ok (.iconst 1, 1) := by decide +kernel
theorem dX6_append_33 : decode cX6_append 33 = .ok (.ireturn, 1) := by decide +kernel
theorem dX6_read_0 : decode cX6_read 0 = .ok (.aload_n 0, 1) := by decide +kernel
theorem dX6_read_1 : decode cX6_read 1 = .ok (.getfield 18, 3) := by decide +kernel
theorem dX6_read_4 : decode cX6_read 4 = .ok (.invokevirtual 26, 3) := by decide +kernel
theorem dX6_read_7 : decode cX6_read 7 = .ok (.aload_n 0, 1) := by decide +kernel
theorem dX6_read_8 : decode cX6_read 8 = .ok (.iconst 0, 1) := by decide +kernel
theorem dX6_read_9 : decode cX6_read 9 = .ok (.putfield 29, 3) := by decide +kernel
theorem dX6_read_12 : decode cX6_read 12 = .ok (.aload_n 0, 1) := by decide +kernel
theorem dX6_read_13 : decode cX6_read 13 = .ok (.iconst 0, 1) := by decide +kernel
theorem dX6_read_14 : decode cX6_read 14 = .ok (.putfield 33, 3) := by decide +kernel
theorem dX6_read_17 : decode cX6_read 17 = .ok (.aload_n 0, 1) := by decide +kernel
theorem dX6_read_18 : decode cX6_read 18 = .ok (.iconst 0, 1) := by decide +kernel
theorem dX6_read_19 : decode cX6_read 19 = .ok (.putfield 36, 3) := by decide +kernel
theorem dX6_read_22 : decode cX6_read 22 = .ok (.iconst 0, 1) := by decide +kernel
theorem dX6_read_23 : decode cX6_read 23 = .ok (.istore_n 1, 1) := by decide +kernel
theorem dX6_read_24 : decode cX6_read 24 = .ok (.iload_n 1, 1) := by decide +kernel
theorem dX6_read_25 : decode cX6_read 25 = .ok (.bipush 9, 2) := by decide +kernel
theorem dX6_read_27 : decode cX6_read 27 = .ok (.if_icmp .gt 35, 3) := by decide +kernel
theorem dX6_read_30 : decode cX6_read 30 = .ok (.aload_n 0, 1) := by decide +kernel
theorem dX6_read_31 : decode cX6_read 31 = .ok (.invokevirtual 39, 3) := by decide +kernel
theorem dX6_read_34 : decode cX6_read 34 = .ok (.aload_n 0, 1) := by decide +kernel
theorem dX6_read_35 : decode cX6_read 35 = .ok (.getfield 42, 3) := by decide +kernel
theorem dX6_read_38 : decode cX6_read 38 = .ok (.sipush 257, 3) := by decide +kernel
theorem dX6_read_41 : decode cX6_read 41 = .ok (.if_icmp .ne 5, 3) := by decide +kernel
theorem dX6_read_44 : decode cX6_read 44 = .ok (.iload_n 1, 1) := by decide +kernel
theorem dX6_read_45 : decode cX6_read 45 = .ok (.ireturn, 1) := by decide +kernel
theorem dX6_read_46 : decode cX6_read 46 = .ok (.aload_n 0, 1) := by decide +kernel
theorem dX6_read_47 : decode cX6_read 47 = .ok (.invokevirtual 45, 3) := by decide +kernel
theorem dX6_read_50 : decode cX6_read 50 = .ok (.ifCond .ne 6, 3) := by decide +kernel
theorem dX6_read_53 : decode cX6_read 53 = .ok (.goto 9, 3) := by decide +kernel
theorem dX6_read_56 : decode cX6_read 56 = .ok (.iinc 1 1, 3) := by decide +kernel
theorem dX6_read_59 : decode cX6_read 59 = .ok (.goto (-35), 3) := by decide +kernel
theorem dX6_read_62 : decode cX6_read 62 = .ok (.bipush (-10), 2) := by decide +kernel
theorem dX6_read_64 : decode cX6_read 64 = .ok (.aload_n 0, 1) := by decide +kernel
theorem dX6_read_65 : decode cX6_read 65 = .ok (.getfield 49, 3) := by decide +kernel
theorem dX6_read_68 : decode cX6_read 68 = .ok (.isub, 1) := by decide +kernel
theorem dX6_read_69 : decode cX6_read 69 = .ok (.ireturn, 1) := by decide +kernel
theorem dX6_readItem_0 : decode cX6_readItem 0 = .ok (.iconst 0, 1) := by decide +kernel
theorem dX6_readItem_1 : decode cX6_readItem 1 = .ok (.istore_n 1, 1) := by decide +kernel
theorem dX6_readItem_2 : decode cX6_readItem 2 = .ok (.aload_n 0, 1) := by decide +kernel
theorem dX6_readItem_3 : decode cX6_readItem 3 = .ok (.getfield 42, 3) := by decide +kernel
theorem dX6_readItem_6 : decode cX6_readItem 6 = .ok (.bipush 112, 2) := by decide +kernel
theorem dX6_readItem_8 : decode cX6_readItem 8 = .ok (.if_icmp .ne 11, 3) := by decide +kernel
theorem dX6_readItem_11 : decode cX6_readItem 11 = .ok (.aload_n 0, 1) := by decide +kernel
theorem dX6_readItem_12 : decode cX6_readItem 12 = .ok (.invokevirtual 52, 3) := by decide +kernel
theorem dX6_readItem_15 : decode cX6_readItem 15 = .ok (.istore_n 1, 1) := by decide +kernel
theorem dX6_readItem_16 : decode cX6_readItem 16 = .ok (.goto 34, 3) := by decide +kernel
theorem dX6_readItem_19 : decode cX6_readItem 19 = .ok (.aload_n 0, 1) := by decide +kernel
theorem dX6_readItem_20 : decode cX6_readItem 20 = .ok (.getfield 42, 3) := by decide +kernel
theorem dX6_readItem_23 : decode cX6_readItem 23 = .ok (.bipush 108, 2) := by decide +kernel
theorem dX6_readItem_25 : decode cX6_readItem 25 = .ok (.if_icmp .ne 11, 3) := by decide +kernel
theorem dX6_readItem_28 : decode cX6_readItem 28 = .ok (.aload_n 0, 1) := by decide +kernel
theorem dX6_readItem_29 : decode cX6_readItem 29 = .ok (.invokevirtual 55, 3) := by decide +kernel
theorem dX6_readItem_32 : decode cX6_readItem 32 = .ok (.istore_n 1, 1) := by decide +kernel
theorem dX6_readItem_33 : decode cX6_readItem 33 = .ok (.goto 17, 3) := by decide +kernel
theorem dX6_readItem_36 : decode cX6_readItem 36 = .ok (.aload_n 0, 1) := by decide +kernel
theorem dX6_readItem_37 : decode cX6_readItem 37 = .ok (.getfield 42, 3) := by decide +kernel
theorem dX6_readItem_40 : decode cX6_readItem 40 = .ok (.bipush 115, 2) := by decide +kernel
theorem dX6_readItem_42 : decode cX6_readItem 42 = .ok (.if_icmp .ne 8, 3) := by decide +kernel
theorem dX6_readItem_45 : decode cX6_readItem 45 = .ok (.aload_n 0, 1) := by decide +kernel
theorem dX6_readItem_46 : decode cX6_readItem 46 = .ok (.invokevirtual 58, 3) := by decide +kernel
theorem dX6_readItem_49 : decode cX6_readItem 49 = .ok (.istore_n 1, 1) := by decide +kernel
theorem dX6_readItem_50 : decode cX6_readItem 50 = .ok (.iload_n 1, 1) := by decide +kernel
theorem dX6_readItem_51 : decode cX6_readItem 51 = .ok (.ifCond .ne 5, 3) := by decide +kernel
theorem dX6_readItem_54 : decode cX6_readItem 54 = .ok (.iconst 0, 1) := by decide +kernel
theorem dX6_readItem_55 : decode cX6_readItem 55 = .ok (.ireturn, 1) := by decide +kernel
theorem dX6_readItem_56 : decode cX6_readItem 56 = .ok (.aload_n 0, 1) := by decide +kernel
theorem dX6_readItem_57 : decode cX6_readItem 57 = .ok (.invokevirtual 39, 3) := by decide +kernel
theorem dX6_readItem_60 : decode cX6_readItem 60 = .ok (.aload_n 0, 1) := by decide +kernel
theorem dX6_readItem_61 : decode cX6_readItem 61 = .ok (.getfield 42, 3) := by decide +kernel
theorem dX6_readItem_64 : decode cX6_readItem 64 = .ok (.bipush 59, 2) := by decide +kernel
theorem dX6_readItem_66 : decode cX6_readItem 66 = .ok (.if_icmp .ne 7, 3) := by decide +kernel
theorem dX6_readItem_69 : decode cX6_readItem 69 = .ok (.iconst 1, 1) := by decide +kernel
theorem dX6_readItem_70 : decode cX6_readItem 70 = .ok (.goto 4, 3) := by decide +kernel
theorem dX6_readItem_73 : decode cX6_readItem 73 = .ok (.iconst 0, 1) := by decide +kernel
theorem dX6_readItem_74 : decode cX6_readItem 74 = .ok (.ireturn, 1) := by decide +kernel
theorem dX6_readPan_0 : decode cX6_readPan 0 = .ok (.aload_n 0, 1) := by decide +kernel
theorem dX6_readPan_1 : decode cX6_readPan 1 = .ok (.getfield 18, 3) := by decide +kernel
theorem dX6_readPan_4 : decode cX6_readPan 4 = .ok (.getfield 61, 3) := by decide +kernel
theorem dX6_readPan_7 : decode cX6_readPan 7 = .ok (.bipush 7, 2) := by decide +kernel
theorem dX6_readPan_9 : decode cX6_readPan 9 = .ok (.if_icmp .ge 13, 3) := by decide +kernel
theorem dX6_readPan_12 : decode cX6_readPan 12 = .ok (.aload_n 0, 1) := by decide +kernel
theorem dX6_readPan_13 : decode cX6_readPan 13 = .ok (.iconst 0, 1) := by decide +kernel
theorem dX6_readPan_14 : decode cX6_readPan 14 = .ok (.bipush 99, 2) := by decide +kernel
theorem dX6_readPan_16 : decode cX6_readPan 16 = .ok (.invokevirtual 64, 3) := by decide +kernel
theorem dX6_readPan_19 : decode cX6_readPan 19 = .ok (.ifCond .ne 5, 3) := by decide +kernel
theorem dX6_readPan_22 : decode cX6_readPan 22 = .ok (.iconst 0, 1) := by decide +kernel
theorem dX6_readPan_23 : decode cX6_readPan 23 = .ok (.ireturn, 1) := by decide +kernel
theorem dX6_readPan_24 : decode cX6_readPan 24 = .ok (.aload_n 0, 1) := by decide +kernel
theorem dX6_readPan_25 : decode cX6_readPan 25 = .ok (.getfield 68, 3) := by decide +kernel
theorem dX6_readPan_28 : decode cX6_readPan 28 = .ok (.istore_n 1, 1) := by decide +kernel
theorem dX6_readPan_29 : decode cX6_readPan 29 = .ok (.aload_n 0, 1) := by decide +kernel
theorem dX6_readPan_30 : decode cX6_readPan 30 = .ok (.iconst 0, 1) := by decide +kernel
theorem dX6_readPan_31 : decode cX6_readPan 31 = .ok (.bipush 60, 2) := by decide +kernel
theorem dX6_readPan_33 : decode cX6_readPan 33 = .ok (.invokevirtual 64, 3) := by decide +kernel
theorem dX6_readPan_36 : decode cX6_readPan 36 = .ok (.ifCond .ne 5, 3) := by decide +kernel
theorem dX6_readPan_39 : decode cX6_readPan 39 = .ok (.iconst 0, 1) := by decide +kernel
theorem dX6_readPan_40 : decode cX6_readPan 40 = .ok (.ireturn, 1) := by decide +kernel
theorem dX6_readPan_41 : decode cX6_readPan 41 = .ok (.aload_n 0, 1) := by decide +kernel
theorem dX6_readPan_42 : decode cX6_readPan 42 = .ok (.getfield 68, 3) := by decide +kernel
theorem dX6_readPan_45 : decode cX6_readPan 45 = .ok (.istore_n 2, 1) := by decide +kernel
theorem dX6_readPan_46 : decode cX6_readPan 46 = .ok (.aload_n 0, 1) := by decide +kernel
theorem dX6_readPan_47 : decode cX6_readPan 47 = .ok (.iconst 0, 1) := by decide +kernel
theorem dX6_readPan_48 : decode cX6_readPan 48 = .ok (.bipush 9, 2) := by decide +kernel
theorem dX6_readPan_50 : decode cX6_readPan 50 = .ok (.invokevirtual 64, 3) := by decide +kernel
theorem dX6_readPan_53 : decode cX6_readPan 53 = .ok (.ifCond .ne 5, 3) := by decide +kernel
theorem dX6_readPan_56 : decode cX6_readPan 56 = .ok (.iconst 0, 1) := by decide +kernel
theorem dX6_readPan_57 : decode cX6_readPan 57 = .ok (.ireturn, 1) := by decide +kernel
theorem dX6_readPan_58 : decode cX6_readPan 58 = .ok (.aload_n 0, 1) := by decide +kernel
theorem dX6_readPan_59 : decode cX6_readPan 59 = .ok (.getfield 68, 3) := by decide +kernel
theorem dX6_readPan_62 : decode cX6_readPan 62 = .ok (.istore_n 3, 1) := by decide +kernel
theorem dX6_readPan_63 : decode cX6_readPan 63 = .ok (.aload_n 0, 1) := by decide +kernel
theorem dX6_readPan_64 : decode cX6_readPan 64 = .ok (.iconst 0, 1) := by decide +kernel
theorem dX6_readPan_65 : decode cX6_readPan 65 = .ok (.iconst 2, 1) := by decide +kernel
theorem dX6_readPan_66 : decode cX6_readPan 66 = .ok (.invokevirtual 64, 3) := by decide +kernel
theorem dX6_readPan_69 : decode cX6_readPan 69 = .ok (.ifCond .eq 24, 3) := by decide +kernel
theorem dX6_readPan_72 : decode cX6_readPan 72 = .ok (.aload_n 0, 1) := by decide +kernel
theorem dX6_readPan_73 : decode cX6_readPan 73 = .ok (.getfield 18, 3) := by decide +kernel
theorem dX6_readPan_76 : decode cX6_readPan 76 = .ok (.iload_n 1, 1) := by decide +kernel
theorem dX6_readPan_77 : decode cX6_readPan 77 = .ok (.iload_n 2, 1) := by decide +kernel
theorem dX6_readPan_78 : decode cX6_readPan 78 = .ok (.iload_n 3, 1) := by decide +kernel
theorem dX6_readPan_79 : decode cX6_readPan 79 = .ok (.aload_n 0, 1) := by decide +kernel
theorem dX6_readPan_80 : decode cX6_readPan 80 = .ok (.getfield 68, 3) := by decide +kernel
theorem dX6_readPan_83 : decode cX6_readPan 83 = .ok (.invokevirtual 71, 3) := by decide +kernel
theorem dX6_readPan_86 : decode cX6_readPan 86 = .ok (.ifCond .eq 7, 3) := by decide +kernel
theorem dX6_readPan_89 : decode cX6_readPan 89 = .ok (.iconst 1, 1) := by decide +kernel
theorem dX6_readPan_90 : decode cX6_readPan 90 = .ok (.goto 4, 3) := by decide +kernel
theorem dX6_readPan_93 : decode cX6_readPan 93 = .ok (.iconst 0, 1) := by decide +kernel
theorem dX6_readPan_94 : decode cX6_readPan 94 = .ok (.ireturn, 1) := by decide +kernel
theorem dX6_readLeast_0 : decode cX6_readLeast 0 = .ok (.aload_n 0, 1) := by decide +kernel
theorem dX6_readLeast_1 : decode cX6_readLeast 1 = .ok (.getfield 29, 3) := by decide +kernel
theorem dX6_readLeast_4 : decode cX6_readLeast 4 = .ok (.ifCond .ne 13, 3) := by decide +kernel
theorem dX6_readLeast_7 : decode cX6_readLeast 7 = .ok (.aload_n 0, 1) := by decide +kernel
theorem dX6_readLeast_8 : decode cX6_readLeast 8 = .ok (.iconst 1, 1) := by decide +kernel
theorem dX6_readLeast_9 : decode cX6_readLeast 9 = .ok (.bipush 60, 2) := by decide +kernel
theorem dX6_readLeast_11 : decode cX6_readLeast 11 = .ok (.invokevirtual 64, 3) := by decide +kernel
theorem dX6_readLeast_14 : decode cX6_readLeast 14 = .ok (.ifCond .ne 5, 3) := by decide +kernel
theorem dX6_readLeast_17 : decode cX6_readLeast 17 = .ok (.iconst 0, 1) := by decide +kernel
theorem dX6_readLeast_18 : decode cX6_readLeast 18 = .ok (.ireturn, 1) := by decide +kernel
theorem dX6_readLeast_19 : decode cX6_readLeast 19 = .ok (.aload_n 0, 1) := by decide +kernel
theorem dX6_readLeast_20 : decode cX6_readLeast 20 = .ok (.iconst 1, 1) := by decide +kernel
theorem dX6_readLeast_21 : decode cX6_readLeast 21 = .ok (.putfield 29, 3) := by decide +kernel
theorem dX6_readLeast_24 : decode cX6_readLeast 24 = .ok (.aload_n 0, 1) := by decide +kernel
theorem dX6_readLeast_25 : decode cX6_readLeast 25 = .ok (.getfield 18, 3) := by decide +kernel
theorem dX6_readLeast_28 : decode cX6_readLeast 28 = .ok (.aload_n 0, 1) := by decide +kernel
theorem dX6_readLeast_29 : decode cX6_readLeast 29 = .ok (.getfield 68, 3) := by decide +kernel
theorem dX6_readLeast_32 : decode cX6_readLeast 32 = .ok (.putfield 75, 3) := by decide +kernel
theorem dX6_readLeast_35 : decode cX6_readLeast 35 = .ok (.iconst 1, 1) := by decide +kernel
theorem dX6_readLeast_36 : decode cX6_readLeast 36 = .ok (.ireturn, 1) := by decide +kernel
theorem dX6_readShelf_0 : decode cX6_readShelf 0 = .ok (.aload_n 0, 1) := by decide +kernel
theorem dX6_readShelf_1 : decode cX6_readShelf 1 = .ok (.getfield 33, 3) := by decide +kernel
theorem dX6_readShelf_4 : decode cX6_readShelf 4 = .ok (.ifCond .ne 14, 3) := by decide +kernel
theorem dX6_readShelf_7 : decode cX6_readShelf 7 = .ok (.aload_n 0, 1) := by decide +kernel
theorem dX6_readShelf_8 : decode cX6_readShelf 8 = .ok (.bipush 10, 2) := by decide +kernel
theorem dX6_readShelf_10 : decode cX6_readShelf 10 = .ok (.bipush 99, 2) := by decide +kernel
theorem dX6_readShelf_12 : decode cX6_readShelf 12 = .ok (.invokevirtual 64, 3) := by decide +kernel
theorem dX6_readShelf_15 : decode cX6_readShelf 15 = .ok (.ifCond .ne 5, 3) := by decide +kernel
theorem dX6_readShelf_18 : decode cX6_readShelf 18 = .ok (.iconst 0, 1) := by decide +kernel
theorem dX6_readShelf_19 : decode cX6_readShelf 19 = .ok (.ireturn, 1) := by decide +kernel
theorem dX6_readShelf_20 : decode cX6_readShelf 20 = .ok (.aload_n 0, 1) := by decide +kernel
theorem dX6_readShelf_21 : decode cX6_readShelf 21 = .ok (.iconst 1, 1) := by decide +kernel
theorem dX6_readShelf_22 : decode cX6_readShelf 22 = .ok (.putfield 33, 3) := by decide +kernel
theorem dX6_readShelf_25 : decode cX6_readShelf 25 = .ok (.aload_n 0, 1) := by decide +kernel
theorem dX6_readShelf_26 : decode cX6_readShelf 26 = .ok (.getfield 18, 3) := by decide +kernel
theorem dX6_readShelf_29 : decode cX6_readShelf 29 = .ok (.aload_n 0, 1) := by decide +kernel
theorem dX6_readShelf_30 : decode cX6_readShelf 30 = .ok (.getfield 68, 3) := by decide +kernel
theorem dX6_readShelf_33 : decode cX6_readShelf 33 = .ok (.putfield 78, 3) := by decide +kernel
theorem dX6_readShelf_36 : decode cX6_readShelf 36 = .ok (.iconst 1, 1) := by decide +kernel
theorem dX6_readShelf_37 : decode cX6_readShelf 37 = .ok (.ireturn, 1) := by decide +kernel
theorem dX6_readNumber_0 : decode cX6_readNumber 0 = .ok (.aload_n 0, 1) := by decide +kernel
theorem dX6_readNumber_1 : decode cX6_readNumber 1 = .ok (.invokevirtual 39, 3) := by decide +kernel
theorem dX6_readNumber_4 : decode cX6_readNumber 4 = .ok (.aload_n 0, 1) := by decide +kernel
theorem dX6_readNumber_5 : decode cX6_readNumber 5 = .ok (.getfield 42, 3) := by decide +kernel
theorem dX6_readNumber_8 : decode cX6_readNumber 8 = .ok (.sipush 256, 3) := by decide +kernel
theorem dX6_readNumber_11 : decode cX6_readNumber 11 = .ok (.if_icmp .ne 23, 3) := by decide +kernel
theorem dX6_readNumber_14 : decode cX6_readNumber 14 = .ok (.aload_n 0, 1) := by decide +kernel
theorem dX6_readNumber_15 : decode cX6_readNumber 15 = .ok (.getfield 68, 3) := by decide +kernel
theorem dX6_readNumber_18 : decode cX6_readNumber 18 = .ok (.iload_n 1, 1) := by decide +kernel
theorem dX6_readNumber_19 : decode cX6_readNumber 19 = .ok (.if_icmp .lt 15, 3) := by decide +kernel
theorem dX6_readNumber_22 : decode cX6_readNumber 22 = .ok (.aload_n 0, 1) := by decide +kernel
theorem dX6_readNumber_23 : decode cX6_readNumber 23 = .ok (.getfield 68, 3) := by decide +kernel
theorem dX6_readNumber_26 : decode cX6_readNumber 26 = .ok (.iload_n 2, 1) := by decide +kernel
theorem dX6_readNumber_27 : decode cX6_readNumber 27 = .ok (.if_icmp .gt 7, 3) := by decide +kernel
theorem dX6_readNumber_30 : decode cX6_readNumber 30 = .ok (.iconst 1, 1) := by decide +kernel
theorem dX6_readNumber_31 : decode cX6_readNumber 31 = .ok (.goto 4, 3) := by decide +kernel
theorem dX6_readNumber_34 : decode cX6_readNumber 34 = .ok (.iconst 0, 1) := by decide +kernel
theorem dX6_readNumber_35 : decode cX6_readNumber 35 = .ok (.ireturn, 1) := by decide +kernel
theorem dX6_step_0 : decode cX6_step 0 = .ok (.aload_n 0, 1) := by decide +kernel
theorem dX6_step_1 : decode cX6_step 1 = .ok (.getfield 36, 3) := by decide +kernel
theorem dX6_step_4 : decode cX6_step 4 = .ok (.aload_n 0, 1) := by decide +kernel
theorem dX6_step_5 : decode cX6_step 5 = .ok (.getfield 22, 3) := by decide +kernel
theorem dX6_step_8 : decode cX6_step 8 = .ok (.if_icmp .ge 30, 3) := by decide +kernel
theorem dX6_step_11 : decode cX6_step 11 = .ok (.aload_n 0, 1) := by decide +kernel
theorem dX6_step_12 : decode cX6_step 12 = .ok (.getfield 9, 3) := by decide +kernel
theorem dX6_step_15 : decode cX6_step 15 = .ok (.aload_n 0, 1) := by decide +kernel
theorem dX6_step_16 : decode cX6_step 16 = .ok (.getfield 36, 3) := by decide +kernel
theorem dX6_step_19 : decode cX6_step 19 = .ok (.iaload, 1) := by decide +kernel
theorem dX6_step_20 : decode cX6_step 20 = .ok (.bipush 32, 2) := by decide +kernel
theorem dX6_step_22 : decode cX6_step 22 = .ok (.if_icmp .ne 16, 3) := by decide +kernel
theorem dX6_step_25 : decode cX6_step 25 = .ok (.aload_n 0, 1) := by decide +kernel
theorem dX6_step_26 : decode cX6_step 26 = .ok (.dup, 1) := by decide +kernel
theorem dX6_step_27 : decode cX6_step 27 = .ok (.getfield 36, 3) := by decide +kernel
theorem dX6_step_30 : decode cX6_step 30 = .ok (.iconst 1, 1) := by decide +kernel
theorem dX6_step_31 : decode cX6_step 31 = .ok (.iadd, 1) := by decide +kernel
theorem dX6_step_32 : decode cX6_step 32 = .ok (.putfield 36, 3) := by decide +kernel
theorem dX6_step_35 : decode cX6_step 35 = .ok (.goto (-35), 3) := by decide +kernel
theorem dX6_step_38 : decode cX6_step 38 = .ok (.aload_n 0, 1) := by decide +kernel
theorem dX6_step_39 : decode cX6_step 39 = .ok (.aload_n 0, 1) := by decide +kernel
theorem dX6_step_40 : decode cX6_step 40 = .ok (.getfield 36, 3) := by decide +kernel
theorem dX6_step_43 : decode cX6_step 43 = .ok (.putfield 49, 3) := by decide +kernel
theorem dX6_step_46 : decode cX6_step 46 = .ok (.aload_n 0, 1) := by decide +kernel
theorem dX6_step_47 : decode cX6_step 47 = .ok (.getfield 36, 3) := by decide +kernel
theorem dX6_step_50 : decode cX6_step 50 = .ok (.aload_n 0, 1) := by decide +kernel
theorem dX6_step_51 : decode cX6_step 51 = .ok (.getfield 22, 3) := by decide +kernel
theorem dX6_step_54 : decode cX6_step 54 = .ok (.if_icmp .lt 13, 3) := by decide +kernel
theorem dX6_step_57 : decode cX6_step 57 = .ok (.aload_n 0, 1) := by decide +kernel
theorem dX6_step_58 : decode cX6_step 58 = .ok (.sipush 257, 3) := by decide +kernel
theorem dX6_step_61 : decode cX6_step 61 = .ok (.putfield 42, 3) := by decide +kernel
theorem dX6_step_64 : decode cX6_step 64 = .ok (.goto 59, 3) := by decide +kernel
theorem dX6_step_67 : decode cX6_step 67 = .ok (.aload_n 0, 1) := by decide +kernel
theorem dX6_step_68 : decode cX6_step 68 = .ok (.getfield 9, 3) := by decide +kernel
theorem dX6_step_71 : decode cX6_step 71 = .ok (.aload_n 0, 1) := by decide +kernel
theorem dX6_step_72 : decode cX6_step 72 = .ok (.getfield 36, 3) := by decide +kernel
theorem dX6_step_75 : decode cX6_step 75 = .ok (.iaload, 1) := by decide +kernel
theorem dX6_step_76 : decode cX6_step 76 = .ok (.invokestatic 81, 3) := by decide +kernel
theorem dX6_step_79 : decode cX6_step 79 = .ok (.ifCond .eq 21, 3) := by decide +kernel
theorem dX6_step_82 : decode cX6_step 82 = .ok (.aload_n 0, 1) := by decide +kernel
theorem dX6_step_83 : decode cX6_step 83 = .ok (.sipush 256, 3) := by decide +kernel
theorem dX6_step_86 : decode cX6_step 86 = .ok (.putfield 42, 3) := by decide +kernel
theorem dX6_step_89 : decode cX6_step 89 = .ok (.aload_n 0, 1) := by decide +kernel
theorem dX6_step_90 : decode cX6_step 90 = .ok (.aload_n 0, 1) := by decide +kernel
theorem dX6_step_91 : decode cX6_step 91 = .ok (.invokevirtual 85, 3) := by decide +kernel
theorem dX6_step_94 : decode cX6_step 94 = .ok (.putfield 68, 3) := by decide +kernel
theorem dX6_step_97 : decode cX6_step 97 = .ok (.goto 26, 3) := by decide +kernel
theorem dX6_step_100 : decode cX6_step 100 = .ok (.aload_n 0, 1) := by decide +kernel
theorem dX6_step_101 : decode cX6_step 101 = .ok (.aload_n 0, 1) := by decide +kernel
theorem dX6_step_102 : decode cX6_step 102 = .ok (.getfield 9, 3) := by decide +kernel
theorem dX6_step_105 : decode cX6_step 105 = .ok (.aload_n 0, 1) := by decide +kernel
theorem dX6_step_106 : decode cX6_step 106 = .ok (.getfield 36, 3) := by decide +kernel
theorem dX6_step_109 : decode cX6_step 109 = .ok (.iaload, 1) := by decide +kernel
theorem dX6_step_110 : decode cX6_step 110 = .ok (.putfield 42, 3) := by decide +kernel
theorem dX6_step_113 : decode cX6_step 113 = .ok (.aload_n 0, 1) := by decide +kernel
theorem dX6_step_114 : decode cX6_step 114 = .ok (.dup, 1) := by decide +kernel
theorem dX6_step_115 : decode cX6_step 115 = .ok (.getfield 36, 3) := by decide +kernel
theorem dX6_step_118 : decode cX6_step 118 = .ok (.iconst 1, 1) := by decide +kernel
theorem dX6_step_119 : decode cX6_step 119 = .ok (.iadd, 1) := by decide +kernel
theorem dX6_step_120 : decode cX6_step 120 = .ok (.putfield 36, 3) := by decide +kernel
theorem dX6_step_123 : decode cX6_step 123 = .ok (.return_, 1) := by decide +kernel
theorem dX6_digits_0 : decode cX6_digits 0 = .ok (.iconst 0, 1) := by decide +kernel
theorem dX6_digits_1 : decode cX6_digits 1 = .ok (.istore_n 1, 1) := by decide +kernel
theorem dX6_digits_2 : decode cX6_digits 2 = .ok (.iconst 0, 1) := by decide +kernel
theorem dX6_digits_3 : decode cX6_digits 3 = .ok (.istore_n 2, 1) := by decide +kernel
theorem dX6_digits_4 : decode cX6_digits 4 = .ok (.aload_n 0, 1) := by decide +kernel
theorem dX6_digits_5 : decode cX6_digits 5 = .ok (.getfield 36, 3) := by decide +kernel
theorem dX6_digits_8 : decode cX6_digits 8 = .ok (.aload_n 0, 1) := by decide +kernel
theorem dX6_digits_9 : decode cX6_digits 9 = .ok (.getfield 22, 3) := by decide +kernel
theorem dX6_digits_12 : decode cX6_digits 12 = .ok (.if_icmp .ge 79, 3) := by decide +kernel
theorem dX6_digits_15 : decode cX6_digits 15 = .ok (.aload_n 0, 1) := by decide +kernel
theorem dX6_digits_16 : decode cX6_digits 16 = .ok (.getfield 9, 3) := by decide +kernel
theorem dX6_digits_19 : decode cX6_digits 19 = .ok (.aload_n 0, 1) := by decide +kernel
theorem dX6_digits_20 : decode cX6_digits 20 = .ok (.getfield 36, 3) := by decide +kernel
theorem dX6_digits_23 : decode cX6_digits 23 = .ok (.iaload, 1) := by decide +kernel
theorem dX6_digits_24 : decode cX6_digits 24 = .ok (.invokestatic 81, 3) := by decide +kernel
theorem dX6_digits_27 : decode cX6_digits 27 = .ok (.ifCond .eq 64, 3) := by decide +kernel
theorem dX6_digits_30 : decode cX6_digits 30 = .ok (.iload_n 2, 1) := by decide +kernel
theorem dX6_digits_31 : decode cX6_digits 31 = .ok (.ifCond .ne 18, 3) := by decide +kernel
theorem dX6_digits_34 : decode cX6_digits 34 = .ok (.iload_n 1, 1) := by decide +kernel
theorem dX6_digits_35 : decode cX6_digits 35 = .ok (.ifCond .ne 18, 3) := by decide +kernel
theorem dX6_digits_38 : decode cX6_digits 38 = .ok (.aload_n 0, 1) := by decide +kernel
theorem dX6_digits_39 : decode cX6_digits 39 = .ok (.getfield 36, 3) := by decide +kernel
theorem dX6_digits_42 : decode cX6_digits 42 = .ok (.aload_n 0, 1) := by decide +kernel
theorem dX6_digits_43 : decode cX6_digits 43 = .ok (.getfield 49, 3) := by decide +kernel
theorem dX6_digits_46 : decode cX6_digits 46 = .ok (.if_icmp .le 7, 3) := by decide +kernel
theorem dX6_digits_49 : decode cX6_digits 49 = .ok (.iconst 1, 1) := by decide +kernel
theorem dX6_digits_50 : decode cX6_digits 50 = .ok (.goto 4, 3) := by decide +kernel
theorem dX6_digits_53 : decode cX6_digits 53 = .ok (.iconst 0, 1) := by decide +kernel
theorem dX6_digits_54 : decode cX6_digits 54 = .ok (.istore_n 2, 1) := by decide +kernel
theorem dX6_digits_55 : decode cX6_digits 55 = .ok (.bipush 100, 2) := by decide +kernel
theorem dX6_digits_57 : decode cX6_digits 57 = .ok (.iload_n 1, 1) := by decide +kernel
theorem dX6_digits_58 : decode cX6_digits 58 = .ok (.bipush 10, 2) := by decide +kernel
theorem dX6_digits_60 : decode cX6_digits 60 = .ok (.imul, 1) := by decide +kernel
theorem dX6_digits_61 : decode cX6_digits 61 = .ok (.aload_n 0, 1) := by decide +kernel
theorem dX6_digits_62 : decode cX6_digits 62 = .ok (.getfield 9, 3) := by decide +kernel
theorem dX6_digits_65 : decode cX6_digits 65 = .ok (.aload_n 0, 1) := by decide +kernel
theorem dX6_digits_66 : decode cX6_digits 66 = .ok (.getfield 36, 3) := by decide +kernel
theorem dX6_digits_69 : decode cX6_digits 69 = .ok (.iaload, 1) := by decide +kernel
theorem dX6_digits_70 : decode cX6_digits 70 = .ok (.iadd, 1) := by decide +kernel
theorem dX6_digits_71 : decode cX6_digits 71 = .ok (.bipush 48, 2) := by decide +kernel
theorem dX6_digits_73 : decode cX6_digits 73 = .ok (.isub, 1) := by decide +kernel
theorem dX6_digits_74 : decode cX6_digits 74 = .ok (.invokestatic 89, 3) := by decide +kernel
theorem dX6_digits_77 : decode cX6_digits 77 = .ok (.istore_n 1, 1) := by decide +kernel
theorem dX6_digits_78 : decode cX6_digits 78 = .ok (.aload_n 0, 1) := by decide +kernel
theorem dX6_digits_79 : decode cX6_digits 79 = .ok (.dup, 1) := by decide +kernel
theorem dX6_digits_80 : decode cX6_digits 80 = .ok (.getfield 36, 3) := by decide +kernel
theorem dX6_digits_83 : decode cX6_digits 83 = .ok (.iconst 1, 1) := by decide +kernel
theorem dX6_digits_84 : decode cX6_digits 84 = .ok (.iadd, 1) := by decide +kernel
theorem dX6_digits_85 : decode cX6_digits 85 = .ok (.putfield 36, 3) := by decide +kernel
theorem dX6_digits_88 : decode cX6_digits 88 = .ok (.goto (-84), 3) := by decide +kernel
theorem dX6_digits_91 : decode cX6_digits 91 = .ok (.iload_n 2, 1) := by decide +kernel
theorem dX6_digits_92 : decode cX6_digits 92 = .ok (.ifCond .eq 8, 3) := by decide +kernel
theorem dX6_digits_95 : decode cX6_digits 95 = .ok (.bipush 100, 2) := by decide +kernel
theorem dX6_digits_97 : decode cX6_digits 97 = .ok (.goto 4, 3) := by decide +kernel
theorem dX6_digits_100 : decode cX6_digits 100 = .ok (.iload_n 1, 1) := by decide +kernel
theorem dX6_digits_101 : decode cX6_digits 101 = .ok (.ireturn, 1) := by decide +kernel
theorem dX6_isDigit_0 : decode cX6_isDigit 0 = .ok (.iload_n 0, 1) := by decide +kernel
theorem dX6_isDigit_1 : decode cX6_isDigit 1 = .ok (.bipush 48, 2) := by decide +kernel
theorem dX6_isDigit_3 : decode cX6_isDigit 3 = .ok (.if_icmp .lt 13, 3) := by decide +kernel
theorem dX6_isDigit_6 : decode cX6_isDigit 6 = .ok (.iload_n 0, 1) := by decide +kernel
theorem dX6_isDigit_7 : decode cX6_isDigit 7 = .ok (.bipush 57, 2) := by decide +kernel
theorem dX6_isDigit_9 : decode cX6_isDigit 9 = .ok (.if_icmp .gt 7, 3) := by decide +kernel
theorem dX6_isDigit_12 : decode cX6_isDigit 12 = .ok (.iconst 1, 1) := by decide +kernel
theorem dX6_isDigit_13 : decode cX6_isDigit 13 = .ok (.goto 4, 3) := by decide +kernel
theorem dX6_isDigit_16 : decode cX6_isDigit 16 = .ok (.iconst 0, 1) := by decide +kernel
theorem dX6_isDigit_17 : decode cX6_isDigit 17 = .ok (.ireturn, 1) := by decide +kernel
theorem dJ6_bitCount_0f7a4_0 : decode cJ6_bitCount_0f7a4 0 = .ok (.iload_n 0, 1) := by decide +kernel
theorem dJ6_bitCount_0f7a4_1 : decode cJ6_bitCount_0f7a4 1 = .ok (.iload_n 0, 1) := by decide +kernel
theorem dJ6_bitCount_0f7a4_2 : decode cJ6_bitCount_0f7a4 2 = .ok (.iconst 1, 1) := by decide +kernel
theorem dJ6_bitCount_0f7a4_3 : decode cJ6_bitCount_0f7a4 3 = .ok (.iushr, 1) := by decide +kernel
theorem dJ6_bitCount_0f7a4_4 : decode cJ6_bitCount_0f7a4 4 = .ok (.ldc_w 265, 3) := by decide +kernel
theorem dJ6_bitCount_0f7a4_7 : decode cJ6_bitCount_0f7a4 7 = .ok (.iand, 1) := by decide +kernel
theorem dJ6_bitCount_0f7a4_8 : decode cJ6_bitCount_0f7a4 8 = .ok (.isub, 1) := by decide +kernel
theorem dJ6_bitCount_0f7a4_9 : decode cJ6_bitCount_0f7a4 9 = .ok (.istore_n 0, 1) := by decide +kernel
theorem dJ6_bitCount_0f7a4_10 : decode cJ6_bitCount_0f7a4 10 = .ok (.iload_n 0, 1) := by decide +kernel
theorem dJ6_bitCount_0f7a4_11 : decode cJ6_bitCount_0f7a4 11 = .ok (.ldc_w 266, 3) := by decide +kernel
theorem dJ6_bitCount_0f7a4_14 : decode cJ6_bitCount_0f7a4 14 = .ok (.iand, 1) := by decide +kernel
theorem dJ6_bitCount_0f7a4_15 : decode cJ6_bitCount_0f7a4 15 = .ok (.iload_n 0, 1) := by decide +kernel
theorem dJ6_bitCount_0f7a4_16 : decode cJ6_bitCount_0f7a4 16 = .ok (.iconst 2, 1) := by decide +kernel
theorem dJ6_bitCount_0f7a4_17 : decode cJ6_bitCount_0f7a4 17 = .ok (.iushr, 1) := by decide +kernel
theorem dJ6_bitCount_0f7a4_18 : decode cJ6_bitCount_0f7a4 18 = .ok (.ldc_w 266, 3) := by decide +kernel
theorem dJ6_bitCount_0f7a4_21 : decode cJ6_bitCount_0f7a4 21 = .ok (.iand, 1) := by decide +kernel
theorem dJ6_bitCount_0f7a4_22 : decode cJ6_bitCount_0f7a4 22 = .ok (.iadd, 1) := by decide +kernel
theorem dJ6_bitCount_0f7a4_23 : decode cJ6_bitCount_0f7a4 23 = .ok (.istore_n 0, 1) := by decide +kernel
theorem dJ6_bitCount_0f7a4_24 : decode cJ6_bitCount_0f7a4 24 = .ok (.iload_n 0, 1) := by decide +kernel
theorem dJ6_bitCount_0f7a4_25 : decode cJ6_bitCount_0f7a4 25 = .ok (.iload_n 0, 1) := by decide +kernel
theorem dJ6_bitCount_0f7a4_26 : decode cJ6_bitCount_0f7a4 26 = .ok (.iconst 4, 1) := by decide +kernel
theorem dJ6_bitCount_0f7a4_27 : decode cJ6_bitCount_0f7a4 27 = .ok (.iushr, 1) := by decide +kernel
theorem dJ6_bitCount_0f7a4_28 : decode cJ6_bitCount_0f7a4 28 = .ok (.iadd, 1) := by decide +kernel
theorem dJ6_bitCount_0f7a4_29 : decode cJ6_bitCount_0f7a4 29 = .ok (.ldc_w 267, 3) := by decide +kernel
theorem dJ6_bitCount_0f7a4_32 : decode cJ6_bitCount_0f7a4 32 = .ok (.iand, 1) := by decide +kernel
theorem dJ6_bitCount_0f7a4_33 : decode cJ6_bitCount_0f7a4 33 = .ok (.istore_n 0, 1) := by decide +kernel
theorem dJ6_bitCount_0f7a4_34 : decode cJ6_bitCount_0f7a4 34 = .ok (.iload_n 0, 1) := by decide +kernel
theorem dJ6_bitCount_0f7a4_35 : decode cJ6_bitCount_0f7a4 35 = .ok (.iload_n 0, 1) := by decide +kernel
theorem dJ6_bitCount_0f7a4_36 : decode cJ6_bitCount_0f7a4 36 = .ok (.bipush 8, 2) := by decide +kernel
theorem dJ6_bitCount_0f7a4_38 : decode cJ6_bitCount_0f7a4 38 = .ok (.iushr, 1) := by decide +kernel
theorem dJ6_bitCount_0f7a4_39 : decode cJ6_bitCount_0f7a4 39 = .ok (.iadd, 1) := by decide +kernel
theorem dJ6_bitCount_0f7a4_40 : decode cJ6_bitCount_0f7a4 40 = .ok (.istore_n 0, 1) := by decide +kernel
theorem dJ6_bitCount_0f7a4_41 : decode cJ6_bitCount_0f7a4 41 = .ok (.iload_n 0, 1) := by decide +kernel
theorem dJ6_bitCount_0f7a4_42 : decode cJ6_bitCount_0f7a4 42 = .ok (.iload_n 0, 1) := by decide +kernel
theorem dJ6_bitCount_0f7a4_43 : decode cJ6_bitCount_0f7a4 43 = .ok (.bipush 16, 2) := by decide +kernel
theorem dJ6_bitCount_0f7a4_45 : decode cJ6_bitCount_0f7a4 45 = .ok (.iushr, 1) := by decide +kernel
theorem dJ6_bitCount_0f7a4_46 : decode cJ6_bitCount_0f7a4 46 = .ok (.iadd, 1) := by decide +kernel
theorem dJ6_bitCount_0f7a4_47 : decode cJ6_bitCount_0f7a4 47 = .ok (.istore_n 0, 1) := by decide +kernel
theorem dJ6_bitCount_0f7a4_48 : decode cJ6_bitCount_0f7a4 48 = .ok (.iload_n 0, 1) := by decide +kernel
theorem dJ6_bitCount_0f7a4_49 : decode cJ6_bitCount_0f7a4 49 = .ok (.bipush 63, 2) := by decide +kernel
theorem dJ6_bitCount_0f7a4_51 : decode cJ6_bitCount_0f7a4 51 = .ok (.iand, 1) := by decide +kernel
theorem dJ6_bitCount_0f7a4_52 : decode cJ6_bitCount_0f7a4 52 = .ok (.ireturn, 1) := by decide +kernel
theorem dJ9_max_7cf53_0 : decode cJ9_max_7cf53 0 = .ok (.iload_n 0, 1) := by decide +kernel
theorem dJ9_max_7cf53_1 : decode cJ9_max_7cf53 1 = .ok (.iload_n 1, 1) := by decide +kernel
theorem dJ9_max_7cf53_2 : decode cJ9_max_7cf53 2 = .ok (.if_icmp .lt 7, 3) := by decide +kernel
theorem dJ9_max_7cf53_5 : decode cJ9_max_7cf53 5 = .ok (.iload_n 0, 1) := by decide +kernel
theorem dJ9_max_7cf53_6 : decode cJ9_max_7cf53 6 = .ok (.goto 4, 3) := by decide +kernel
theorem dJ9_max_7cf53_9 : decode cJ9_max_7cf53 9 = .ok (.iload_n 1, 1) := by decide +kernel
theorem dJ9_max_7cf53_10 : decode cJ9_max_7cf53 10 = .ok (.ireturn, 1) := by decide +kernel
theorem dJ9_min_7cf53_0 : decode cJ9_min_7cf53 0 = .ok (.iload_n 0, 1) := by decide +kernel
theorem dJ9_min_7cf53_1 : decode cJ9_min_7cf53 1 = .ok (.iload_n 1, 1) := by decide +kernel
theorem dJ9_min_7cf53_2 : decode cJ9_min_7cf53 2 = .ok (.if_icmp .gt 7, 3) := by decide +kernel
theorem dJ9_min_7cf53_5 : decode cJ9_min_7cf53 5 = .ok (.iload_n 0, 1) := by decide +kernel
theorem dJ9_min_7cf53_6 : decode cJ9_min_7cf53 6 = .ok (.goto 4, 3) := by decide +kernel
theorem dJ9_min_7cf53_9 : decode cJ9_min_7cf53 9 = .ok (.iload_n 1, 1) := by decide +kernel
theorem dJ9_min_7cf53_10 : decode cJ9_min_7cf53 10 = .ok (.ireturn, 1) := by decide +kernel
end
section
theorem dX7_init_0 : decode cX7_init 0 = .ok (.aload_n 0, 1) := by decide +kernel
theorem dX7_init_1 : decode cX7_init 1 = .ok (.invokespecial 1, 3) := by decide +kernel
theorem dX7_init_4 : decode cX7_init 4 = .ok (.aload_n 0, 1) := by decide +kernel
theorem dX7_init_5 : decode cX7_init 5 = .ok (.new 7, 3) := by decide +kernel
theorem dX7_init_8 : decode cX7_init 8 = .ok (.dup, 1) := by decide +kernel
theorem dX7_init_9 : decode cX7_init 9 = .ok (.invokespecial 9, 3) := by decide +kernel
theorem dX7_init_12 : decode cX7_init 12 = .ok (.putfield 10, 3) := by decide +kernel
theorem dX7_init_15 : decode cX7_init 15 = .ok (.aload_n 0, 1) := by decide +kernel
theorem dX7_init_16 : decode cX7_init 16 = .ok (.new 16, 3) := by decide +kernel
theorem dX7_init_19 : decode cX7_init 19 = .ok (.dup, 1) := by decide +kernel
theorem dX7_init_20 : decode cX7_init 20 = .ok (.invokespecial 18, 3) := by decide +kernel
theorem dX7_init_23 : decode cX7_init 23 = .ok (.putfield 19, 3) := by decide +kernel
theorem dX7_init_26 : decode cX7_init 26 = .ok (.aload_n 0, 1) := by decide +kernel
theorem dX7_init_27 : decode cX7_init 27 = .ok (.new 23, 3) := by decide +kernel
theorem dX7_init_30 : decode cX7_init 30 = .ok (.dup, 1) := by decide +kernel
theorem dX7_init_31 : decode cX7_init 31 = .ok (.aload_n 0, 1) := by decide +kernel
theorem dX7_init_32 : decode cX7_init 32 = .ok (.getfield 10, 3) := by decide +kernel
theorem dX7_init_35 : decode cX7_init 35 = .ok (.invokespecial 25, 3) := by decide +kernel
theorem dX7_init_38 : decode cX7_init 38 = .ok (.putfield 28, 3) := by decide +kernel
theorem dX7_init_41 : decode cX7_init 41 = .ok (.aload_n 0, 1) := by decide +kernel
theorem dX7_init_42 : decode cX7_init 42 = .ok (.new 32, 3) := by decide +kernel
theorem dX7_init_45 : decode cX7_init 45 = .ok (.dup, 1) := by decide +kernel
theorem dX7_init_46 : decode cX7_init 46 = .ok (.aload_n 0, 1) := by decide +kernel
theorem dX7_init_47 : decode cX7_init 47 = .ok (.getfield 10, 3) := by decide +kernel
theorem dX7_init_50 : decode cX7_init 50 = .ok (.invokespecial 34, 3) := by decide +kernel
theorem dX7_init_53 : decode cX7_init 53 = .ok (.putfield 35, 3) := by decide +kernel
theorem dX7_init_56 : decode cX7_init 56 = .ok (.aload_n 0, 1) := by decide +kernel
theorem dX7_init_57 : decode cX7_init 57 = .ok (.iconst 2, 1) := by decide +kernel
theorem dX7_init_58 : decode cX7_init 58 = .ok (.anewarray 23, 3) := by decide +kernel
theorem dX7_init_61 : decode cX7_init 61 = .ok (.putfield 39, 3) := by decide +kernel
theorem dX7_init_64 : decode cX7_init 64 = .ok (.iconst 0, 1) := by decide +kernel
theorem dX7_init_65 : decode cX7_init 65 = .ok (.istore_n 1, 1) := by decide +kernel
theorem dX7_init_66 : decode cX7_init 66 = .ok (.iload_n 1, 1) := by decide +kernel
theorem dX7_init_67 : decode cX7_init 67 = .ok (.iconst 2, 1) := by decide +kernel
theorem dX7_init_68 : decode cX7_init 68 = .ok (.if_icmp .ge 26, 3) := by decide +kernel
theorem dX7_init_71 : decode cX7_init 71 = .ok (.aload_n 0, 1) := by decide +kernel
theorem dX7_init_72 : decode cX7_init 72 = .ok (.getfield 39, 3) := by decide +kernel
theorem dX7_init_75 : decode cX7_init 75 = .ok (.iload_n 1, 1) := by decide +kernel
theorem dX7_init_76 : decode cX7_init 76 = .ok (.new 23, 3) := by decide +kernel
theorem dX7_init_79 : decode cX7_init 79 = .ok (.dup, 1) := by decide +kernel
theorem dX7_init_80 : decode cX7_init 80 = .ok (.aload_n 0, 1) := by decide +kernel
theorem dX7_init_81 : decode cX7_init 81 = .ok (.getfield 10, 3) := by decide +kernel
theorem dX7_init_84 : decode cX7_init 84 = .ok (.invokespecial 25, 3) := by decide +kernel
theorem dX7_init_87 : decode cX7_init 87 = .ok (.aastore, 1) := by decide +kernel
theorem dX7_init_88 : decode cX7_init 88 = .ok (.iinc 1 1, 3) := by decide +kernel
theorem dX7_init_91 : decode cX7_init 91 = .ok (.goto (-25), 3) := by decide +kernel
theorem dX7_init_94 : decode cX7_init 94 = .ok (.aload_n 0, 1) := by decide +kernel
theorem dX7_init_95 : decode cX7_init 95 = .ok (.iconst 2, 1) := by decide +kernel
theorem dX7_init_96 : decode cX7_init 96 = .ok (.newarray .boolean, 2) := by decide +kernel
theorem dX7_init_98 : decode cX7_init 98 = .ok (.putfield 43, 3) := by decide +kernel
theorem dX7_init_101 : decode cX7_init 101 = .ok (.aload_n 0, 1) := by decide +kernel
theorem dX7_init_102 : decode cX7_init 102 = .ok (.new 47, 3) := by decide +kernel
theorem dX7_init_105 : decode cX7_init 105 = .ok (.dup, 1) := by decide +kernel
theorem dX7_init_106 : decode cX7_init 106 = .ok (.invokespecial 49, 3) := by decide +kernel
theorem dX7_init_109 : decode cX7_init 109 = .ok (.putfield 50, 3) := by decide +kernel
theorem dX7_init_112 : decode cX7_init 112 = .ok (.aload_n 0, 1) := by decide +kernel
theorem dX7_init_113 : decode cX7_init 113 = .ok (.new 54, 3) := by decide +kernel
theorem dX7_init_116 : decode cX7_init 116 = .ok (.dup, 1) := by decide +kernel
theorem dX7_init_117 : decode cX7_init 117 = .ok (.invokespecial 56, 3) := by decide +kernel
theorem dX7_init_120 : decode cX7_init 120 = .ok (.putfield 57, 3) := by decide +kernel
theorem dX7_init_123 : decode cX7_init 123 = .ok (.aload_n 0, 1) := by decide +kernel
theorem dX7_init_124 : decode cX7_init 124 = .ok (.new 61, 3) := by decide +kernel
theorem dX7_init_127 : decode cX7_init 127 = .ok (.dup, 1) := by decide +kernel
theorem dX7_init_128 : decode cX7_init 128 = .ok (.invokespecial 63, 3) := by decide +kernel
theorem dX7_init_131 : decode cX7_init 131 = .ok (.putfield 64, 3) := by decide +kernel
theorem dX7_init_134 : decode cX7_init 134 = .ok (.aload_n 0, 1) := by decide +kernel
theorem dX7_init_135 : decode cX7_init 135 = .ok (.lconst 0, 1) := by decide +kernel
theorem dX7_init_136 : decode cX7_init 136 = .ok (.putfield 68, 3) := by decide +kernel
theorem dX7_init_139 : decode cX7_init 139 = .ok (.return_, 1) := by decide +kernel
theorem dX7_type_0 : decode cX7_type 0 = .ok (.iload_n 1, 1) := by decide +kernel
theorem dX7_type_1 : decode cX7_type 1 = .ok (.iconst 0, 1) := by decide +kernel
theorem dX7_type_2 : decode cX7_type 2 = .ok (.sipush 255, 3) := by decide +kernel
theorem dX7_type_5 : decode cX7_type 5 = .ok (.invokestatic 72, 3) := by decide +kernel
theorem dX7_type_8 : decode cX7_type 8 = .ok (.ifCond .ne 5, 3) := by decide +kernel
theorem dX7_type_11 : decode cX7_type 11 = .ok (.iconst (-1), 1) := by decide +kernel
theorem dX7_type_12 : decode cX7_type 12 = .ok (.ireturn, 1) := by decide +kernel
theorem dX7_type_13 : decode cX7_type 13 = .ok (.aload_n 0, 1) := by decide +kernel
theorem dX7_type_14 : decode cX7_type 14 = .ok (.getfield 19, 3) := by decide +kernel
theorem dX7_type_17 : decode cX7_type 17 = .ok (.iload_n 1, 1) := by decide +kernel
theorem dX7_type_18 : decode cX7_type 18 = .ok (.invokevirtual 76, 3) := by decide +kernel
theorem dX7_type_21 : decode cX7_type 21 = .ok (.ifCond .eq 13, 3) := by decide +kernel
theorem dX7_type_24 : decode cX7_type 24 = .ok (.aload_n 0, 1) := by decide +kernel
theorem dX7_type_25 : decode cX7_type 25 = .ok (.getfield 19, 3) := by decide +kernel
theorem dX7_type_28 : decode cX7_type 28 = .ok (.getfield 80, 3) := by decide +kernel
theorem dX7_type_31 : decode cX7_type 31 = .ok (.goto 5, 3) := by decide +kernel
theorem dX7_type_34 : decode cX7_type 34 = .ok (.bipush (-3), 2) := by decide +kernel
theorem dX7_type_36 : decode cX7_type 36 = .ok (.ireturn, 1) := by decide +kernel
theorem dX7_clear_0 : decode cX7_clear 0 = .ok (.aload_n 0, 1) := by decide +kernel
theorem dX7_clear_1 : decode cX7_clear 1 = .ok (.getfield 19, 3) := by decide +kernel
theorem dX7_clear_4 : decode cX7_clear 4 = .ok (.getfield 80, 3) := by decide +kernel
theorem dX7_clear_7 : decode cX7_clear 7 = .ok (.istore_n 1, 1) := by decide +kernel
theorem dX7_clear_8 : decode cX7_clear 8 = .ok (.aload_n 0, 1) := by decide +kernel
theorem dX7_clear_9 : decode cX7_clear 9 = .ok (.getfield 19, 3) := by decide +kernel
theorem dX7_clear_12 : decode cX7_clear 12 = .ok (.iconst 0, 1) := by decide +kernel
theorem dX7_clear_13 : decode cX7_clear 13 = .ok (.putfield 80, 3) := by decide +kernel
theorem dX7_clear_16 : decode cX7_clear 16 = .ok (.iload_n 1, 1) := by decide +kernel
theorem dX7_clear_17 : decode cX7_clear 17 = .ok (.ireturn, 1) := by decide +kernel
theorem dX7_house_0 : decode cX7_house 0 = .ok (.aload_n 0, 1) := by decide +kernel
theorem dX7_house_1 : decode cX7_house 1 = .ok (.getfield 19, 3) := by decide +kernel
theorem dX7_house_4 : decode cX7_house 4 = .ok (.invokevirtual 84, 3) := by decide +kernel
theorem dX7_house_7 : decode cX7_house 7 = .ok (.istore_n 1, 1) := by decide +kernel
theorem dX7_house_8 : decode cX7_house 8 = .ok (.iload_n 1, 1) := by decide +kernel
theorem dX7_house_9 : decode cX7_house 9 = .ok (.ifCond .ge 5, 3) := by decide +kernel
theorem dX7_house_12 : decode cX7_house 12 = .ok (.iload_n 1, 1) := by decide +kernel
theorem dX7_house_13 : decode cX7_house 13 = .ok (.ireturn, 1) := by decide +kernel
theorem dX7_house_14 : decode cX7_house 14 = .ok (.aload_n 0, 1) := by decide +kernel
theorem dX7_house_15 : decode cX7_house 15 = .ok (.getfield 10, 3) := by decide +kernel
theorem dX7_house_18 : decode cX7_house 18 = .ok (.aload_n 0, 1) := by decide +kernel
theorem dX7_house_19 : decode cX7_house 19 = .ok (.getfield 19, 3) := by decide +kernel
theorem dX7_house_22 : decode cX7_house 22 = .ok (.getfield 88, 3) := by decide +kernel
theorem dX7_house_25 : decode cX7_house 25 = .ok (.invokevirtual 91, 3) := by decide +kernel
theorem dX7_house_28 : decode cX7_house 28 = .ok (.aload_n 0, 1) := by decide +kernel
theorem dX7_house_29 : decode cX7_house 29 = .ok (.getfield 19, 3) := by decide +kernel
theorem dX7_house_32 : decode cX7_house 32 = .ok (.iconst 0, 1) := by decide +kernel
theorem dX7_house_33 : decode cX7_house 33 = .ok (.putfield 80, 3) := by decide +kernel
theorem dX7_house_36 : decode cX7_house 36 = .ok (.aload_n 0, 1) := by decide +kernel
theorem dX7_house_37 : decode cX7_house 37 = .ok (.getfield 28, 3) := by decide +kernel
theorem dX7_house_40 : decode cX7_house 40 = .ok (.invokevirtual 94, 3) := by decide +kernel
theorem dX7_house_43 : decode cX7_house 43 = .ok (.aload_n 0, 1) := by decide +kernel
theorem dX7_house_44 : decode cX7_house 44 = .ok (.getfield 35, 3) := by decide +kernel
theorem dX7_house_47 : decode cX7_house 47 = .ok (.iconst 0, 1) := by decide +kernel
theorem dX7_house_48 : decode cX7_house 48 = .ok (.putfield 97, 3) := by decide +kernel
theorem dX7_house_51 : decode cX7_house 51 = .ok (.aload_n 0, 1) := by decide +kernel
theorem dX7_house_52 : decode cX7_house 52 = .ok (.getfield 50, 3) := by decide +kernel
theorem dX7_house_55 : decode cX7_house 55 = .ok (.iconst 0, 1) := by decide +kernel
theorem dX7_house_56 : decode cX7_house 56 = .ok (.putfield 100, 3) := by decide +kernel
theorem dX7_house_59 : decode cX7_house 59 = .ok (.iconst 0, 1) := by decide +kernel
theorem dX7_house_60 : decode cX7_house 60 = .ok (.istore_n 2, 1) := by decide +kernel
theorem dX7_house_61 : decode cX7_house 61 = .ok (.iload_n 2, 1) := by decide +kernel
theorem dX7_house_62 : decode cX7_house 62 = .ok (.iconst 2, 1) := by decide +kernel
theorem dX7_house_63 : decode cX7_house 63 = .ok (.if_icmp .ge 16, 3) := by decide +kernel
theorem dX7_house_66 : decode cX7_house 66 = .ok (.aload_n 0, 1) := by decide +kernel
theorem dX7_house_67 : decode cX7_house 67 = .ok (.getfield 43, 3) := by decide +kernel
theorem dX7_house_70 : decode cX7_house 70 = .ok (.iload_n 2, 1) := by decide +kernel
theorem dX7_house_71 : decode cX7_house 71 = .ok (.iconst 0, 1) := by decide +kernel
theorem dX7_house_72 : decode cX7_house 72 = .ok (.bastore, 1) := by decide +kernel
theorem dX7_house_73 : decode cX7_house 73 = .ok (.iinc 2 1, 3) := by decide +kernel
theorem dX7_house_76 : decode cX7_house 76 = .ok (.goto (-15), 3) := by decide +kernel
theorem dX7_house_79 : decode cX7_house 79 = .ok (.iload_n 1, 1) := by decide +kernel
theorem dX7_house_80 : decode cX7_house 80 = .ok (.ireturn, 1) := by decide +kernel
theorem dX7_pan_0 : decode cX7_pan 0 = .ok (.aload_n 0, 1) := by decide +kernel
theorem dX7_pan_1 : decode cX7_pan 1 = .ok (.getfield 10, 3) := by decide +kernel
theorem dX7_pan_4 : decode cX7_pan 4 = .ok (.iload_n 1, 1) := by decide +kernel
theorem dX7_pan_5 : decode cX7_pan 5 = .ok (.invokevirtual 103, 3) := by decide +kernel
theorem dX7_pan_8 : decode cX7_pan 8 = .ok (.ifCond .ne 5, 3) := by decide +kernel
theorem dX7_pan_11 : decode cX7_pan 11 = .ok (.iconst (-1), 1) := by decide +kernel
theorem dX7_pan_12 : decode cX7_pan 12 = .ok (.ireturn, 1) := by decide +kernel
theorem dX7_pan_13 : decode cX7_pan 13 = .ok (.iload_n 2, 1) := by decide +kernel
theorem dX7_pan_14 : decode cX7_pan 14 = .ok (.tableswitch 116 0 6 #[42, 52, 62, 72, 81, 98, 107], 42) := by decide +kernel
theorem dX7_pan_56 : decode cX7_pan 56 = .ok (.aload_n 0, 1) := by decide +kernel
theorem dX7_pan_57 : decode cX7_pan 57 = .ok (.getfield 10, 3) := by decide +kernel
theorem dX7_pan_60 : decode cX7_pan 60 = .ok (.getfield 106, 3) := by decide +kernel
theorem dX7_pan_63 : decode cX7_pan 63 = .ok (.iload_n 1, 1) := by decide +kernel
theorem dX7_pan_64 : decode cX7_pan 64 = .ok (.iaload, 1) := by decide +kernel
theorem dX7_pan_65 : decode cX7_pan 65 = .ok (.ireturn, 1) := by decide +kernel
theorem dX7_pan_66 : decode cX7_pan 66 = .ok (.aload_n 0, 1) := by decide +kernel
theorem dX7_pan_67 : decode cX7_pan 67 = .ok (.getfield 10, 3) := by decide +kernel
theorem dX7_pan_70 : decode cX7_pan 70 = .ok (.getfield 110, 3) := by decide +kernel
theorem dX7_pan_73 : decode cX7_pan 73 = .ok (.iload_n 1, 1) := by decide +kernel
theorem dX7_pan_74 : decode cX7_pan 74 = .ok (.iaload, 1) := by decide +kernel
theorem dX7_pan_75 : decode cX7_pan 75 = .ok (.ireturn, 1) := by decide +kernel
theorem dX7_pan_76 : decode cX7_pan 76 = .ok (.aload_n 0, 1) := by decide +kernel
theorem dX7_pan_77 : decode cX7_pan 77 = .ok (.getfield 10, 3) := by decide +kernel
theorem dX7_pan_80 : decode cX7_pan 80 = .ok (.getfield 113, 3) := by decide +kernel
theorem dX7_pan_83 : decode cX7_pan 83 = .ok (.iload_n 1, 1) := by decide +kernel
theorem dX7_pan_84 : decode cX7_pan 84 = .ok (.iaload, 1) := by decide +kernel
theorem dX7_pan_85 : decode cX7_pan 85 = .ok (.ireturn, 1) := by decide +kernel
theorem dX7_pan_86 : decode cX7_pan 86 = .ok (.aload_n 0, 1) := by decide +kernel
theorem dX7_pan_87 : decode cX7_pan 87 = .ok (.getfield 28, 3) := by decide +kernel
theorem dX7_pan_90 : decode cX7_pan 90 = .ok (.iload_n 1, 1) := by decide +kernel
theorem dX7_pan_91 : decode cX7_pan 91 = .ok (.invokevirtual 116, 3) := by decide +kernel
theorem dX7_pan_94 : decode cX7_pan 94 = .ok (.ireturn, 1) := by decide +kernel
theorem dX7_pan_95 : decode cX7_pan 95 = .ok (.aload_n 0, 1) := by decide +kernel
theorem dX7_pan_96 : decode cX7_pan 96 = .ok (.getfield 28, 3) := by decide +kernel
theorem dX7_pan_99 : decode cX7_pan 99 = .ok (.iload_n 1, 1) := by decide +kernel
theorem dX7_pan_100 : decode cX7_pan 100 = .ok (.invokevirtual 120, 3) := by decide +kernel
theorem dX7_pan_103 : decode cX7_pan 103 = .ok (.ifCond .eq 7, 3) := by decide +kernel
theorem dX7_pan_106 : decode cX7_pan 106 = .ok (.iconst 1, 1) := by decide +kernel
theorem dX7_pan_107 : decode cX7_pan 107 = .ok (.goto 4, 3) := by decide +kernel
theorem dX7_pan_110 : decode cX7_pan 110 = .ok (.iconst 0, 1) := by decide +kernel
theorem dX7_pan_111 : decode cX7_pan 111 = .ok (.ireturn, 1) := by decide +kernel
theorem dX7_pan_112 : decode cX7_pan 112 = .ok (.aload_n 0, 1) := by decide +kernel
theorem dX7_pan_113 : decode cX7_pan 113 = .ok (.getfield 28, 3) := by decide +kernel
theorem dX7_pan_116 : decode cX7_pan 116 = .ok (.iload_n 1, 1) := by decide +kernel
theorem dX7_pan_117 : decode cX7_pan 117 = .ok (.invokevirtual 123, 3) := by decide +kernel
theorem dX7_pan_120 : decode cX7_pan 120 = .ok (.ireturn, 1) := by decide +kernel
theorem dX7_pan_121 : decode cX7_pan 121 = .ok (.aload_n 0, 1) := by decide +kernel
theorem dX7_pan_122 : decode cX7_pan 122 = .ok (.getfield 28, 3) := by decide +kernel
theorem dX7_pan_125 : decode cX7_pan 125 = .ok (.iload_n 1, 1) := by decide +kernel
theorem dX7_pan_126 : decode cX7_pan 126 = .ok (.invokevirtual 126, 3) := by decide +kernel
theorem dX7_pan_129 : decode cX7_pan 129 = .ok (.ireturn, 1) := by decide +kernel
theorem dX7_pan_130 : decode cX7_pan 130 = .ok (.iconst (-1), 1) := by decide +kernel
theorem dX7_pan_131 : decode cX7_pan 131 = .ok (.ireturn, 1) := by decide +kernel
theorem dX7_holds_0 : decode cX7_holds 0 = .ok (.aload_n 0, 1) := by decide +kernel
theorem dX7_holds_1 : decode cX7_holds 1 = .ok (.getfield 10, 3) := by decide +kernel
theorem dX7_holds_4 : decode cX7_holds 4 = .ok (.iload_n 1, 1) := by decide +kernel
theorem dX7_holds_5 : decode cX7_holds 5 = .ok (.invokevirtual 103, 3) := by decide +kernel
theorem dX7_holds_8 : decode cX7_holds 8 = .ok (.ifCond .eq 14, 3) := by decide +kernel
theorem dX7_holds_11 : decode cX7_holds 11 = .ok (.aload_n 0, 1) := by decide +kernel
theorem dX7_holds_12 : decode cX7_holds 12 = .ok (.getfield 10, 3) := by decide +kernel
theorem dX7_holds_15 : decode cX7_holds 15 = .ok (.iload_n 2, 1) := by decide +kernel
theorem dX7_holds_16 : decode cX7_holds 16 = .ok (.invokevirtual 103, 3) := by decide +kernel
theorem dX7_holds_19 : decode cX7_holds 19 = .ok (.ifCond .ne 5, 3) := by decide +kernel
theorem dX7_holds_22 : decode cX7_holds 22 = .ok (.iconst (-1), 1) := by decide +kernel
theorem dX7_holds_23 : decode cX7_holds 23 = .ok (.ireturn, 1) := by decide +kernel
theorem dX7_holds_24 : decode cX7_holds 24 = .ok (.aload_n 0, 1) := by decide +kernel
theorem dX7_holds_25 : decode cX7_holds 25 = .ok (.getfield 28, 3) := by decide +kernel
theorem dX7_holds_28 : decode cX7_holds 28 = .ok (.iload_n 1, 1) := by decide +kernel
theorem dX7_holds_29 : decode cX7_holds 29 = .ok (.iload_n 2, 1) := by decide +kernel
theorem dX7_holds_30 : decode cX7_holds 30 = .ok (.invokevirtual 129, 3) := by decide +kernel
theorem dX7_holds_33 : decode cX7_holds 33 = .ok (.ireturn, 1) := by decide +kernel
theorem dX7_now_0 : decode cX7_now 0 = .ok (.iload_n 1, 1) := by decide +kernel
theorem dX7_now_1 : decode cX7_now 1 = .ok (.tableswitch 87 0 5 #[39, 47, 55, 63, 71, 79], 39) := by decide +kernel
theorem dX7_now_40 : decode cX7_now 40 = .ok (.aload_n 0, 1) := by decide +kernel
theorem dX7_now_41 : decode cX7_now 41 = .ok (.getfield 28, 3) := by decide +kernel
theorem dX7_now_44 : decode cX7_now 44 = .ok (.getfield 133, 3) := by decide +kernel
theorem dX7_now_47 : decode cX7_now 47 = .ok (.ireturn, 1) := by decide +kernel
theorem dX7_now_48 : decode cX7_now 48 = .ok (.aload_n 0, 1) := by decide +kernel
theorem dX7_now_49 : decode cX7_now 49 = .ok (.getfield 28, 3) := by decide +kernel
theorem dX7_now_52 : decode cX7_now 52 = .ok (.getfield 136, 3) := by decide +kernel
theorem dX7_now_55 : decode cX7_now 55 = .ok (.ireturn, 1) := by decide +kernel
theorem dX7_now_56 : decode cX7_now 56 = .ok (.aload_n 0, 1) := by decide +kernel
theorem dX7_now_57 : decode cX7_now 57 = .ok (.getfield 28, 3) := by decide +kernel
theorem dX7_now_60 : decode cX7_now 60 = .ok (.invokevirtual 139, 3) := by decide +kernel
theorem dX7_now_63 : decode cX7_now 63 = .ok (.ireturn, 1) := by decide +kernel
theorem dX7_now_64 : decode cX7_now 64 = .ok (.aload_n 0, 1) := by decide +kernel
theorem dX7_now_65 : decode cX7_now 65 = .ok (.getfield 28, 3) := by decide +kernel
theorem dX7_now_68 : decode cX7_now 68 = .ok (.invokevirtual 142, 3) := by decide +kernel
theorem dX7_now_71 : decode cX7_now 71 = .ok (.ireturn, 1) := by decide +kernel
theorem dX7_now_72 : decode cX7_now 72 = .ok (.aload_n 0, 1) := by decide +kernel
theorem dX7_now_73 : decode cX7_now 73 = .ok (.getfield 28, 3) := by decide +kernel
theorem dX7_now_76 : decode cX7_now 76 = .ok (.invokevirtual 145, 3) := by decide +kernel
theorem dX7_now_79 : decode cX7_now 79 = .ok (.ireturn, 1) := by decide +kernel
theorem dX7_now_80 : decode cX7_now 80 = .ok (.aload_n 0, 1) := by decide +kernel
theorem dX7_now_81 : decode cX7_now 81 = .ok (.getfield 35, 3) := by decide +kernel
theorem dX7_now_84 : decode cX7_now 84 = .ok (.getfield 97, 3) := by decide +kernel
theorem dX7_now_87 : decode cX7_now 87 = .ok (.ireturn, 1) := by decide +kernel
theorem dX7_now_88 : decode cX7_now 88 = .ok (.iconst (-1), 1) := by decide +kernel
theorem dX7_now_89 : decode cX7_now 89 = .ok (.ireturn, 1) := by decide +kernel
theorem dX7_uses_0 : decode cX7_uses 0 = .ok (.aload_n 0, 1) := by decide +kernel
theorem dX7_uses_1 : decode cX7_uses 1 = .ok (.getfield 10, 3) := by decide +kernel
theorem dX7_uses_4 : decode cX7_uses 4 = .ok (.iload_n 1, 1) := by decide +kernel
theorem dX7_uses_5 : decode cX7_uses 5 = .ok (.invokevirtual 103, 3) := by decide +kernel
theorem dX7_uses_8 : decode cX7_uses 8 = .ok (.ifCond .eq 13, 3) := by decide +kernel
theorem dX7_uses_11 : decode cX7_uses 11 = .ok (.iload_n 2, 1) := by decide +kernel
theorem dX7_uses_12 : decode cX7_uses 12 = .ok (.iconst 1, 1) := by decide +kernel
theorem dX7_uses_13 : decode cX7_uses 13 = .ok (.bipush 99, 2) := by decide +kernel
theorem dX7_uses_15 : decode cX7_uses 15 = .ok (.invokestatic 72, 3) := by decide +kernel
theorem dX7_uses_18 : decode cX7_uses 18 = .ok (.ifCond .ne 5, 3) := by decide +kernel
theorem dX7_uses_21 : decode cX7_uses 21 = .ok (.iconst (-1), 1) := by decide +kernel
theorem dX7_uses_22 : decode cX7_uses 22 = .ok (.ireturn, 1) := by decide +kernel
theorem dX7_uses_23 : decode cX7_uses 23 = .ok (.aload_n 0, 1) := by decide +kernel
theorem dX7_uses_24 : decode cX7_uses 24 = .ok (.getfield 28, 3) := by decide +kernel
theorem dX7_uses_27 : decode cX7_uses 27 = .ok (.iload_n 1, 1) := by decide +kernel
theorem dX7_uses_28 : decode cX7_uses 28 = .ok (.invokevirtual 116, 3) := by decide +kernel
theorem dX7_uses_31 : decode cX7_uses 31 = .ok (.ifCond .ne 6, 3) := by decide +kernel
theorem dX7_uses_34 : decode cX7_uses 34 = .ok (.bipush (-2), 2) := by decide +kernel
theorem dX7_uses_36 : decode cX7_uses 36 = .ok (.ireturn, 1) := by decide +kernel
theorem dX7_uses_37 : decode cX7_uses 37 = .ok (.aload_n 0, 1) := by decide +kernel
theorem dX7_uses_38 : decode cX7_uses 38 = .ok (.getfield 35, 3) := by decide +kernel
theorem dX7_uses_41 : decode cX7_uses 41 = .ok (.aload_n 0, 1) := by decide +kernel
theorem dX7_uses_42 : decode cX7_uses 42 = .ok (.getfield 28, 3) := by decide +kernel
theorem dX7_uses_45 : decode cX7_uses 45 = .ok (.invokevirtual 148, 3) := by decide +kernel
theorem dX7_uses_48 : decode cX7_uses 48 = .ok (.aload_n 0, 1) := by decide +kernel
theorem dX7_uses_49 : decode cX7_uses 49 = .ok (.getfield 28, 3) := by decide +kernel
theorem dX7_uses_52 : decode cX7_uses 52 = .ok (.iload_n 1, 1) := by decide +kernel
theorem dX7_uses_53 : decode cX7_uses 53 = .ok (.iload_n 2, 1) := by decide +kernel
theorem dX7_uses_54 : decode cX7_uses 54 = .ok (.iconst (-1), 1) := by decide +kernel
theorem dX7_uses_55 : decode cX7_uses 55 = .ok (.invokevirtual 152, 3) := by decide +kernel
theorem dX7_uses_58 : decode cX7_uses 58 = .ok (.ireturn, 1) := by decide +kernel
theorem dX7_pours_0 : decode cX7_pours 0 = .ok (.aload_n 0, 1) := by decide +kernel
theorem dX7_pours_1 : decode cX7_pours 1 = .ok (.getfield 10, 3) := by decide +kernel
theorem dX7_pours_4 : decode cX7_pours 4 = .ok (.iload_n 1, 1) := by decide +kernel
theorem dX7_pours_5 : decode cX7_pours 5 = .ok (.invokevirtual 103, 3) := by decide +kernel
theorem dX7_pours_8 : decode cX7_pours 8 = .ok (.ifCond .eq 29, 3) := by decide +kernel
theorem dX7_pours_11 : decode cX7_pours 11 = .ok (.aload_n 0, 1) := by decide +kernel
theorem dX7_pours_12 : decode cX7_pours 12 = .ok (.getfield 10, 3) := by decide +kernel
theorem dX7_pours_15 : decode cX7_pours 15 = .ok (.iload_n 2, 1) := by decide +kernel
theorem dX7_pours_16 : decode cX7_pours 16 = .ok (.invokevirtual 103, 3) := by decide +kernel
theorem dX7_pours_19 : decode cX7_pours 19 = .ok (.ifCond .eq 18, 3) := by decide +kernel
theorem dX7_pours_22 : decode cX7_pours 22 = .ok (.iload_n 1, 1) := by decide +kernel
theorem dX7_pours_23 : decode cX7_pours 23 = .ok (.iload_n 2, 1) := by decide +kernel
theorem dX7_pours_24 : decode cX7_pours 24 = .ok (.if_icmp .eq 13, 3) := by decide +kernel
theorem dX7_pours_27 : decode cX7_pours 27 = .ok (.iload_n 3, 1) := by decide +kernel
theorem dX7_pours_28 : decode cX7_pours 28 = .ok (.iconst 1, 1) := by decide +kernel
theorem dX7_pours_29 : decode cX7_pours 29 = .ok (.bipush 99, 2) := by decide +kernel
theorem dX7_pours_31 : decode cX7_pours 31 = .ok (.invokestatic 72, 3) := by decide +kernel
theorem dX7_pours_34 : decode cX7_pours 34 = .ok (.ifCond .ne 5, 3) := by decide +kernel
theorem dX7_pours_37 : decode cX7_pours 37 = .ok (.iconst (-1), 1) := by decide +kernel
theorem dX7_pours_38 : decode cX7_pours 38 = .ok (.ireturn, 1) := by decide +kernel
theorem dX7_pours_39 : decode cX7_pours 39 = .ok (.aload_n 0, 1) := by decide +kernel
theorem dX7_pours_40 : decode cX7_pours 40 = .ok (.getfield 28, 3) := by decide +kernel
theorem dX7_pours_43 : decode cX7_pours 43 = .ok (.iload_n 1, 1) := by decide +kernel
theorem dX7_pours_44 : decode cX7_pours 44 = .ok (.invokevirtual 116, 3) := by decide +kernel
theorem dX7_pours_47 : decode cX7_pours 47 = .ok (.ifCond .ne 6, 3) := by decide +kernel
theorem dX7_pours_50 : decode cX7_pours 50 = .ok (.bipush (-2), 2) := by decide +kernel
theorem dX7_pours_52 : decode cX7_pours 52 = .ok (.ireturn, 1) := by decide +kernel
theorem dX7_pours_53 : decode cX7_pours 53 = .ok (.aload_n 0, 1) := by decide +kernel
theorem dX7_pours_54 : decode cX7_pours 54 = .ok (.getfield 35, 3) := by decide +kernel
theorem dX7_pours_57 : decode cX7_pours 57 = .ok (.aload_n 0, 1) := by decide +kernel
theorem dX7_pours_58 : decode cX7_pours 58 = .ok (.getfield 28, 3) := by decide +kernel
theorem dX7_pours_61 : decode cX7_pours 61 = .ok (.invokevirtual 148, 3) := by decide +kernel
theorem dX7_pours_64 : decode cX7_pours 64 = .ok (.aload_n 0, 1) := by decide +kernel
theorem dX7_pours_65 : decode cX7_pours 65 = .ok (.getfield 28, 3) := by decide +kernel
theorem dX7_pours_68 : decode cX7_pours 68 = .ok (.iload_n 1, 1) := by decide +kernel
theorem dX7_pours_69 : decode cX7_pours 69 = .ok (.iload_n 3, 1) := by decide +kernel
theorem dX7_pours_70 : decode cX7_pours 70 = .ok (.iload_n 2, 1) := by decide +kernel
theorem dX7_pours_71 : decode cX7_pours 71 = .ok (.invokevirtual 152, 3) := by decide +kernel
theorem dX7_pours_74 : decode cX7_pours 74 = .ok (.ireturn, 1) := by decide +kernel
theorem dX7_spring_0 : decode cX7_spring 0 = .ok (.aload_n 0, 1) := by decide +kernel
theorem dX7_spring_1 : decode cX7_spring 1 = .ok (.getfield 28, 3) := by decide +kernel
theorem dX7_spring_4 : decode cX7_spring 4 = .ok (.getfield 133, 3) := by decide +kernel
theorem dX7_spring_7 : decode cX7_spring 7 = .ok (.sipush 999, 3) := by decide +kernel
theorem dX7_spring_10 : decode cX7_spring 10 = .ok (.if_icmp .lt 6, 3) := by decide +kernel
theorem dX7_spring_13 : decode cX7_spring 13 = .ok (.bipush (-2), 2) := by decide +kernel
theorem dX7_spring_15 : decode cX7_spring 15 = .ok (.ireturn, 1) := by decide +kernel
theorem dX7_spring_16 : decode cX7_spring 16 = .ok (.aload_n 0, 1) := by decide +kernel
theorem dX7_spring_17 : decode cX7_spring 17 = .ok (.getfield 35, 3) := by decide +kernel
theorem dX7_spring_20 : decode cX7_spring 20 = .ok (.aload_n 0, 1) := by decide +kernel
theorem dX7_spring_21 : decode cX7_spring 21 = .ok (.getfield 28, 3) := by decide +kernel
theorem dX7_spring_24 : decode cX7_spring 24 = .ok (.invokevirtual 148, 3) := by decide +kernel
theorem dX7_spring_27 : decode cX7_spring 27 = .ok (.aload_n 0, 1) := by decide +kernel
theorem dX7_spring_28 : decode cX7_spring 28 = .ok (.getfield 28, 3) := by decide +kernel
theorem dX7_spring_31 : decode cX7_spring 31 = .ok (.invokevirtual 156, 3) := by decide +kernel
theorem dX7_spring_34 : decode cX7_spring 34 = .ok (.ireturn, 1) := by decide +kernel
theorem dX7_splits_0 : decode cX7_splits 0 = .ok (.aload_n 0, 1) := by decide +kernel
theorem dX7_splits_1 : decode cX7_splits 1 = .ok (.getfield 10, 3) := by decide +kernel
theorem dX7_splits_4 : decode cX7_splits 4 = .ok (.iload_n 1, 1) := by decide +kernel
theorem dX7_splits_5 : decode cX7_splits 5 = .ok (.invokevirtual 103, 3) := by decide +kernel
theorem dX7_splits_8 : decode cX7_splits 8 = .ok (.ifCond .ne 5, 3) := by decide +kernel
theorem dX7_splits_11 : decode cX7_splits 11 = .ok (.iconst (-1), 1) := by decide +kernel
theorem dX7_splits_12 : decode cX7_splits 12 = .ok (.ireturn, 1) := by decide +kernel
theorem dX7_splits_13 : decode cX7_splits 13 = .ok (.aload_n 0, 1) := by decide +kernel
theorem dX7_splits_14 : decode cX7_splits 14 = .ok (.getfield 28, 3) := by decide +kernel
theorem dX7_splits_17 : decode cX7_splits 17 = .ok (.iload_n 1, 1) := by decide +kernel
theorem dX7_splits_18 : decode cX7_splits 18 = .ok (.invokevirtual 116, 3) := by decide +kernel
theorem dX7_splits_21 : decode cX7_splits 21 = .ok (.istore_n 2, 1) := by decide +kernel
theorem dX7_splits_22 : decode cX7_splits 22 = .ok (.iload_n 2, 1) := by decide +kernel
theorem dX7_splits_23 : decode cX7_splits 23 = .ok (.ifCond .ne 6, 3) := by decide +kernel
theorem dX7_splits_26 : decode cX7_splits 26 = .ok (.bipush (-2), 2) := by decide +kernel
theorem dX7_splits_28 : decode cX7_splits 28 = .ok (.ireturn, 1) := by decide +kernel
theorem dX7_splits_29 : decode cX7_splits 29 = .ok (.aload_n 0, 1) := by decide +kernel
theorem dX7_splits_30 : decode cX7_splits 30 = .ok (.getfield 35, 3) := by decide +kernel
theorem dX7_splits_33 : decode cX7_splits 33 = .ok (.aload_n 0, 1) := by decide +kernel
theorem dX7_splits_34 : decode cX7_splits 34 = .ok (.getfield 28, 3) := by decide +kernel
theorem dX7_splits_37 : decode cX7_splits 37 = .ok (.invokevirtual 148, 3) := by decide +kernel
theorem dX7_splits_40 : decode cX7_splits 40 = .ok (.aload_n 0, 1) := by decide +kernel
theorem dX7_splits_41 : decode cX7_splits 41 = .ok (.getfield 28, 3) := by decide +kernel
theorem dX7_splits_44 : decode cX7_splits 44 = .ok (.iload_n 1, 1) := by decide +kernel
theorem dX7_splits_45 : decode cX7_splits 45 = .ok (.iload_n 2, 1) := by decide +kernel
theorem dX7_splits_46 : decode cX7_splits 46 = .ok (.iconst (-1), 1) := by decide +kernel
theorem dX7_splits_47 : decode cX7_splits 47 = .ok (.invokevirtual 152, 3) := by decide +kernel
theorem dX7_splits_50 : decode cX7_splits 50 = .ok (.ireturn, 1) := by decide +kernel
theorem dX7_undo_0 : decode cX7_undo 0 = .ok (.aload_n 0, 1) := by decide +kernel
theorem dX7_undo_1 : decode cX7_undo 1 = .ok (.getfield 35, 3) := by decide +kernel
theorem dX7_undo_4 : decode cX7_undo 4 = .ok (.getfield 97, 3) := by decide +kernel
theorem dX7_undo_7 : decode cX7_undo 7 = .ok (.ifCond .ne 6, 3) := by decide +kernel
theorem dX7_undo_10 : decode cX7_undo 10 = .ok (.bipush (-2), 2) := by decide +kernel
theorem dX7_undo_12 : decode cX7_undo 12 = .ok (.ireturn, 1) := by decide +kernel
theorem dX7_undo_13 : decode cX7_undo 13 = .ok (.aload_n 0, 1) := by decide +kernel
theorem dX7_undo_14 : decode cX7_undo 14 = .ok (.getfield 35, 3) := by decide +kernel
theorem dX7_undo_17 : decode cX7_undo 17 = .ok (.aload_n 0, 1) := by decide +kernel
theorem dX7_undo_18 : decode cX7_undo 18 = .ok (.getfield 28, 3) := by decide +kernel
theorem dX7_undo_21 : decode cX7_undo 21 = .ok (.invokevirtual 159, 3) := by decide +kernel
theorem dX7_undo_24 : decode cX7_undo 24 = .ok (.aload_n 0, 1) := by decide +kernel
theorem dX7_undo_25 : decode cX7_undo 25 = .ok (.getfield 35, 3) := by decide +kernel
theorem dX7_undo_28 : decode cX7_undo 28 = .ok (.getfield 97, 3) := by decide +kernel
theorem dX7_undo_31 : decode cX7_undo 31 = .ok (.ireturn, 1) := by decide +kernel
theorem dX7_lasts_0 : decode cX7_lasts 0 = .ok (.aload_n 0, 1) := by decide +kernel
theorem dX7_lasts_1 : decode cX7_lasts 1 = .ok (.getfield 10, 3) := by decide +kernel
theorem dX7_lasts_4 : decode cX7_lasts 4 = .ok (.iload_n 1, 1) := by decide +kernel
theorem dX7_lasts_5 : decode cX7_lasts 5 = .ok (.invokevirtual 103, 3) := by decide +kernel
theorem dX7_lasts_8 : decode cX7_lasts 8 = .ok (.ifCond .ne 5, 3) := by decide +kernel
theorem dX7_lasts_11 : decode cX7_lasts 11 = .ok (.iconst (-1), 1) := by decide +kernel
theorem dX7_lasts_12 : decode cX7_lasts 12 = .ok (.ireturn, 1) := by decide +kernel
theorem dX7_lasts_13 : decode cX7_lasts 13 = .ok (.iconst 0, 1) := by decide +kernel
theorem dX7_lasts_14 : decode cX7_lasts 14 = .ok (.istore_n 2, 1) := by decide +kernel
theorem dX7_lasts_15 : decode cX7_lasts 15 = .ok (.iload_n 2, 1) := by decide +kernel
theorem dX7_lasts_16 : decode cX7_lasts 16 = .ok (.sipush 400, 3) := by decide +kernel
theorem dX7_lasts_19 : decode cX7_lasts 19 = .ok (.if_icmp .gt 23, 3) := by decide +kernel
theorem dX7_lasts_22 : decode cX7_lasts 22 = .ok (.aload_n 0, 1) := by decide +kernel
theorem dX7_lasts_23 : decode cX7_lasts 23 = .ok (.getfield 28, 3) := by decide +kernel
theorem dX7_lasts_26 : decode cX7_lasts 26 = .ok (.iload_n 2, 1) := by decide +kernel
theorem dX7_lasts_27 : decode cX7_lasts 27 = .ok (.iload_n 1, 1) := by decide +kernel
theorem dX7_lasts_28 : decode cX7_lasts 28 = .ok (.invokevirtual 162, 3) := by decide +kernel
theorem dX7_lasts_31 : decode cX7_lasts 31 = .ok (.ifCond .ne 5, 3) := by decide +kernel
theorem dX7_lasts_34 : decode cX7_lasts 34 = .ok (.iload_n 2, 1) := by decide +kernel
theorem dX7_lasts_35 : decode cX7_lasts 35 = .ok (.ireturn, 1) := by decide +kernel
theorem dX7_lasts_36 : decode cX7_lasts 36 = .ok (.iinc 2 1, 3) := by decide +kernel
theorem dX7_lasts_39 : decode cX7_lasts 39 = .ok (.goto (-24), 3) := by decide +kernel
theorem dX7_lasts_42 : decode cX7_lasts 42 = .ok (.bipush (-9), 2) := by decide +kernel
theorem dX7_lasts_44 : decode cX7_lasts 44 = .ok (.ireturn, 1) := by decide +kernel
theorem dX7_inSprings_0 : decode cX7_inSprings 0 = .ok (.iload_n 1, 1) := by decide +kernel
theorem dX7_inSprings_1 : decode cX7_inSprings 1 = .ok (.iconst 0, 1) := by decide +kernel
theorem dX7_inSprings_2 : decode cX7_inSprings 2 = .ok (.sipush 200, 3) := by decide +kernel
theorem dX7_inSprings_5 : decode cX7_inSprings 5 = .ok (.invokestatic 72, 3) := by decide +kernel
theorem dX7_inSprings_8 : decode cX7_inSprings 8 = .ok (.ifCond .ne 5, 3) := by decide +kernel
theorem dX7_inSprings_11 : decode cX7_inSprings 11 = .ok (.iconst (-1), 1) := by decide +kernel
theorem dX7_inSprings_12 : decode cX7_inSprings 12 = .ok (.ireturn, 1) := by decide +kernel
theorem dX7_inSprings_13 : decode cX7_inSprings 13 = .ok (.iload_n 2, 1) := by decide +kernel
theorem dX7_inSprings_14 : decode cX7_inSprings 14 = .ok (.iconst (-1), 1) := by decide +kernel
theorem dX7_inSprings_15 : decode cX7_inSprings 15 = .ok (.if_icmp .ne 9, 3) := by decide +kernel
theorem dX7_inSprings_18 : decode cX7_inSprings 18 = .ok (.aload_n 0, 1) := by decide +kernel
theorem dX7_inSprings_19 : decode cX7_inSprings 19 = .ok (.iload_n 1, 1) := by decide +kernel
theorem dX7_inSprings_20 : decode cX7_inSprings 20 = .ok (.invokevirtual 166, 3) := by decide +kernel
theorem dX7_inSprings_23 : decode cX7_inSprings 23 = .ok (.ireturn, 1) := by decide +kernel
theorem dX7_inSprings_24 : decode cX7_inSprings 24 = .ok (.aload_n 0, 1) := by decide +kernel
theorem dX7_inSprings_25 : decode cX7_inSprings 25 = .ok (.getfield 10, 3) := by decide +kernel
theorem dX7_inSprings_28 : decode cX7_inSprings 28 = .ok (.iload_n 2, 1) := by decide +kernel
theorem dX7_inSprings_29 : decode cX7_inSprings 29 = .ok (.invokevirtual 103, 3) := by decide +kernel
theorem dX7_inSprings_32 : decode cX7_inSprings 32 = .ok (.ifCond .eq 20, 3) := by decide +kernel
theorem dX7_inSprings_35 : decode cX7_inSprings 35 = .ok (.aload_n 0, 1) := by decide +kernel
theorem dX7_inSprings_36 : decode cX7_inSprings 36 = .ok (.aload_n 0, 1) := by decide +kernel
theorem dX7_inSprings_37 : decode cX7_inSprings 37 = .ok (.getfield 28, 3) := by decide +kernel
theorem dX7_inSprings_40 : decode cX7_inSprings 40 = .ok (.iload_n 2, 1) := by decide +kernel
theorem dX7_inSprings_41 : decode cX7_inSprings 41 = .ok (.invokevirtual 116, 3) := by decide +kernel
theorem dX7_inSprings_44 : decode cX7_inSprings 44 = .ok (.iload_n 1, 1) := by decide +kernel
theorem dX7_inSprings_45 : decode cX7_inSprings 45 = .ok (.iload_n 2, 1) := by decide +kernel
theorem dX7_inSprings_46 : decode cX7_inSprings 46 = .ok (.invokevirtual 169, 3) := by decide +kernel
theorem dX7_inSprings_49 : decode cX7_inSprings 49 = .ok (.goto 4, 3) := by decide +kernel
theorem dX7_inSprings_52 : decode cX7_inSprings 52 = .ok (.iconst (-1), 1) := by decide +kernel
theorem dX7_inSprings_53 : decode cX7_inSprings 53 = .ok (.ireturn, 1) := by decide +kernel
theorem dX7_countReadableIn_0 : decode cX7_countReadableIn 0 = .ok (.iconst 0, 1) := by decide +kernel
theorem dX7_countReadableIn_1 : decode cX7_countReadableIn 1 = .ok (.istore_n 2, 1) := by decide +kernel
theorem dX7_countReadableIn_2 : decode cX7_countReadableIn 2 = .ok (.iconst 0, 1) := by decide +kernel
theorem dX7_countReadableIn_3 : decode cX7_countReadableIn 3 = .ok (.istore_n 3, 1) := by decide +kernel
theorem dX7_countReadableIn_4 : decode cX7_countReadableIn 4 = .ok (.iload_n 3, 1) := by decide +kernel
theorem dX7_countReadableIn_5 : decode cX7_countReadableIn 5 = .ok (.aload_n 0, 1) := by decide +kernel
theorem dX7_countReadableIn_6 : decode cX7_countReadableIn 6 = .ok (.getfield 10, 3) := by decide +kernel
theorem dX7_countReadableIn_9 : decode cX7_countReadableIn 9 = .ok (.getfield 172, 3) := by decide +kernel
theorem dX7_countReadableIn_12 : decode cX7_countReadableIn 12 = .ok (.if_icmp .ge 24, 3) := by decide +kernel
theorem dX7_countReadableIn_15 : decode cX7_countReadableIn 15 = .ok (.aload_n 0, 1) := by decide +kernel
theorem dX7_countReadableIn_16 : decode cX7_countReadableIn 16 = .ok (.getfield 28, 3) := by decide +kernel
theorem dX7_countReadableIn_19 : decode cX7_countReadableIn 19 = .ok (.iload_n 1, 1) := by decide +kernel
theorem dX7_countReadableIn_20 : decode cX7_countReadableIn 20 = .ok (.iload_n 3, 1) := by decide +kernel
theorem dX7_countReadableIn_21 : decode cX7_countReadableIn 21 = .ok (.invokevirtual 162, 3) := by decide +kernel
theorem dX7_countReadableIn_24 : decode cX7_countReadableIn 24 = .ok (.ifCond .eq 6, 3) := by decide +kernel
theorem dX7_countReadableIn_27 : decode cX7_countReadableIn 27 = .ok (.iinc 2 1, 3) := by decide +kernel
theorem dX7_countReadableIn_30 : decode cX7_countReadableIn 30 = .ok (.iinc 3 1, 3) := by decide +kernel
theorem dX7_countReadableIn_33 : decode cX7_countReadableIn 33 = .ok (.goto (-29), 3) := by decide +kernel
theorem dX7_countReadableIn_36 : decode cX7_countReadableIn 36 = .ok (.iload_n 2, 1) := by decide +kernel
theorem dX7_countReadableIn_37 : decode cX7_countReadableIn 37 = .ok (.ireturn, 1) := by decide +kernel
theorem dX7_afterSprings_0 : decode cX7_afterSprings 0 = .ok (.iconst 0, 1) := by decide +kernel
theorem dX7_afterSprings_1 : decode cX7_afterSprings 1 = .ok (.iload_n 1, 1) := by decide +kernel
theorem dX7_afterSprings_2 : decode cX7_afterSprings 2 = .ok (.iload_n 2, 1) := by decide +kernel
theorem dX7_afterSprings_3 : decode cX7_afterSprings 3 = .ok (.aload_n 0, 1) := by decide +kernel
theorem dX7_afterSprings_4 : decode cX7_afterSprings 4 = .ok (.getfield 10, 3) := by decide +kernel
theorem dX7_afterSprings_7 : decode cX7_afterSprings 7 = .ok (.getfield 110, 3) := by decide +kernel
theorem dX7_afterSprings_10 : decode cX7_afterSprings 10 = .ok (.iload_n 3, 1) := by decide +kernel
theorem dX7_afterSprings_11 : decode cX7_afterSprings 11 = .ok (.iaload, 1) := by decide +kernel
theorem dX7_afterSprings_12 : decode cX7_afterSprings 12 = .ok (.imul, 1) := by decide +kernel
theorem dX7_afterSprings_13 : decode cX7_afterSprings 13 = .ok (.isub, 1) := by decide +kernel
theorem dX7_afterSprings_14 : decode cX7_afterSprings 14 = .ok (.invokestatic 175, 3) := by decide +kernel
theorem dX7_afterSprings_17 : decode cX7_afterSprings 17 = .ok (.ireturn, 1) := by decide +kernel
theorem dX7_fire_0 : decode cX7_fire 0 = .ok (.iload_n 1, 1) := by decide +kernel
theorem dX7_fire_1 : decode cX7_fire 1 = .ok (.iconst 1, 1) := by decide +kernel
theorem dX7_fire_2 : decode cX7_fire 2 = .ok (.sipush 400, 3) := by decide +kernel
theorem dX7_fire_5 : decode cX7_fire 5 = .ok (.invokestatic 72, 3) := by decide +kernel
theorem dX7_fire_8 : decode cX7_fire 8 = .ok (.ifCond .eq 12, 3) := by decide +kernel
theorem dX7_fire_11 : decode cX7_fire 11 = .ok (.iload_n 2, 1) := by decide +kernel
theorem dX7_fire_12 : decode cX7_fire 12 = .ok (.iconst 0, 1) := by decide +kernel
theorem dX7_fire_13 : decode cX7_fire 13 = .ok (.iconst 1, 1) := by decide +kernel
theorem dX7_fire_14 : decode cX7_fire 14 = .ok (.invokestatic 72, 3) := by decide +kernel
theorem dX7_fire_17 : decode cX7_fire 17 = .ok (.ifCond .ne 5, 3) := by decide +kernel
theorem dX7_fire_20 : decode cX7_fire 20 = .ok (.iconst (-1), 1) := by decide +kernel
theorem dX7_fire_21 : decode cX7_fire 21 = .ok (.ireturn, 1) := by decide +kernel
theorem dX7_fire_22 : decode cX7_fire 22 = .ok (.aload_n 0, 1) := by decide +kernel
theorem dX7_fire_23 : decode cX7_fire 23 = .ok (.getfield 57, 3) := by decide +kernel
theorem dX7_fire_26 : decode cX7_fire 26 = .ok (.aload_n 0, 1) := by decide +kernel
theorem dX7_fire_27 : decode cX7_fire 27 = .ok (.getfield 10, 3) := by decide +kernel
theorem dX7_fire_30 : decode cX7_fire 30 = .ok (.aload_n 0, 1) := by decide +kernel
theorem dX7_fire_31 : decode cX7_fire 31 = .ok (.getfield 28, 3) := by decide +kernel
theorem dX7_fire_34 : decode cX7_fire 34 = .ok (.invokevirtual 180, 3) := by decide +kernel
theorem dX7_fire_37 : decode cX7_fire 37 = .ok (.aload_n 0, 1) := by decide +kernel
theorem dX7_fire_38 : decode cX7_fire 38 = .ok (.getfield 28, 3) := by decide +kernel
theorem dX7_fire_41 : decode cX7_fire 41 = .ok (.invokevirtual 142, 3) := by decide +kernel
theorem dX7_fire_44 : decode cX7_fire 44 = .ok (.istore_n 3, 1) := by decide +kernel
theorem dX7_fire_45 : decode cX7_fire 45 = .ok (.aload_n 0, 1) := by decide +kernel
theorem dX7_fire_46 : decode cX7_fire 46 = .ok (.getfield 57, 3) := by decide +kernel
theorem dX7_fire_49 : decode cX7_fire 49 = .ok (.iload_n 1, 1) := by decide +kernel
theorem dX7_fire_50 : decode cX7_fire 50 = .ok (.iload_n 3, 1) := by decide +kernel
theorem dX7_fire_51 : decode cX7_fire 51 = .ok (.invokevirtual 184, 3) := by decide +kernel
theorem dX7_fire_54 : decode cX7_fire 54 = .ok (.istore 4, 2) := by decide +kernel
theorem dX7_fire_56 : decode cX7_fire 56 = .ok (.iload 4, 2) := by decide +kernel
theorem dX7_fire_58 : decode cX7_fire 58 = .ok (.bipush (-9), 2) := by decide +kernel
theorem dX7_fire_60 : decode cX7_fire 60 = .ok (.if_icmp .eq 7, 3) := by decide +kernel
theorem dX7_fire_63 : decode cX7_fire 63 = .ok (.iload_n 2, 1) := by decide +kernel
theorem dX7_fire_64 : decode cX7_fire 64 = .ok (.ifCond .ne 6, 3) := by decide +kernel
theorem dX7_fire_67 : decode cX7_fire 67 = .ok (.iload 4, 2) := by decide +kernel
theorem dX7_fire_69 : decode cX7_fire 69 = .ok (.ireturn, 1) := by decide +kernel
theorem dX7_fire_70 : decode cX7_fire 70 = .ok (.iload_n 3, 1) := by decide +kernel
theorem dX7_fire_71 : decode cX7_fire 71 = .ok (.iload 4, 2) := by decide +kernel
theorem dX7_fire_73 : decode cX7_fire 73 = .ok (.invokestatic 187, 3) := by decide +kernel
theorem dX7_fire_76 : decode cX7_fire 76 = .ok (.ireturn, 1) := by decide +kernel
theorem dX7_spoil_0 : decode cX7_spoil 0 = .ok (.aload_n 0, 1) := by decide +kernel
theorem dX7_spoil_1 : decode cX7_spoil 1 = .ok (.getfield 10, 3) := by decide +kernel
theorem dX7_spoil_4 : decode cX7_spoil 4 = .ok (.iload_n 1, 1) := by decide +kernel
theorem dX7_spoil_5 : decode cX7_spoil 5 = .ok (.invokevirtual 103, 3) := by decide +kernel
theorem dX7_spoil_8 : decode cX7_spoil 8 = .ok (.ifCond .ne 5, 3) := by decide +kernel
theorem dX7_spoil_11 : decode cX7_spoil 11 = .ok (.iconst (-1), 1) := by decide +kernel
theorem dX7_spoil_12 : decode cX7_spoil 12 = .ok (.ireturn, 1) := by decide +kernel
theorem dX7_spoil_13 : decode cX7_spoil 13 = .ok (.aload_n 0, 1) := by decide +kernel
theorem dX7_spoil_14 : decode cX7_spoil 14 = .ok (.getfield 28, 3) := by decide +kernel
theorem dX7_spoil_17 : decode cX7_spoil 17 = .ok (.iload_n 1, 1) := by decide +kernel
theorem dX7_spoil_18 : decode cX7_spoil 18 = .ok (.invokevirtual 120, 3) := by decide +kernel
theorem dX7_spoil_21 : decode cX7_spoil 21 = .ok (.ifCond .eq 24, 3) := by decide +kernel
theorem dX7_spoil_24 : decode cX7_spoil 24 = .ok (.aload_n 0, 1) := by decide +kernel
theorem dX7_spoil_25 : decode cX7_spoil 25 = .ok (.getfield 28, 3) := by decide +kernel
theorem dX7_spoil_28 : decode cX7_spoil 28 = .ok (.iload_n 1, 1) := by decide +kernel
theorem dX7_spoil_29 : decode cX7_spoil 29 = .ok (.invokevirtual 116, 3) := by decide +kernel
theorem dX7_spoil_32 : decode cX7_spoil 32 = .ok (.aload_n 0, 1) := by decide +kernel
theorem dX7_spoil_33 : decode cX7_spoil 33 = .ok (.getfield 10, 3) := by decide +kernel
theorem dX7_spoil_36 : decode cX7_spoil 36 = .ok (.getfield 190, 3) := by decide +kernel
theorem dX7_spoil_39 : decode cX7_spoil 39 = .ok (.isub, 1) := by decide +kernel
theorem dX7_spoil_40 : decode cX7_spoil 40 = .ok (.iconst 1, 1) := by decide +kernel
theorem dX7_spoil_41 : decode cX7_spoil 41 = .ok (.iadd, 1) := by decide +kernel
theorem dX7_spoil_42 : decode cX7_spoil 42 = .ok (.goto 4, 3) := by decide +kernel
theorem dX7_spoil_45 : decode cX7_spoil 45 = .ok (.iconst 0, 1) := by decide +kernel
theorem dX7_spoil_46 : decode cX7_spoil 46 = .ok (.ireturn, 1) := by decide +kernel
theorem dX7_mix_0 : decode cX7_mix 0 = .ok (.iload_n 1, 1) := by decide +kernel
theorem dX7_mix_1 : decode cX7_mix 1 = .ok (.iconst 1, 1) := by decide +kernel
theorem dX7_mix_2 : decode cX7_mix 2 = .ok (.bipush 60, 2) := by decide +kernel
theorem dX7_mix_4 : decode cX7_mix 4 = .ok (.invokestatic 72, 3) := by decide +kernel
theorem dX7_mix_7 : decode cX7_mix 7 = .ok (.ifCond .eq 23, 3) := by decide +kernel
theorem dX7_mix_10 : decode cX7_mix 10 = .ok (.iload_n 2, 1) := by decide +kernel
theorem dX7_mix_11 : decode cX7_mix 11 = .ok (.iconst 0, 1) := by decide +kernel
theorem dX7_mix_12 : decode cX7_mix 12 = .ok (.sipush 5940, 3) := by decide +kernel
theorem dX7_mix_15 : decode cX7_mix 15 = .ok (.invokestatic 72, 3) := by decide +kernel
theorem dX7_mix_18 : decode cX7_mix 18 = .ok (.ifCond .eq 12, 3) := by decide +kernel
theorem dX7_mix_21 : decode cX7_mix 21 = .ok (.iload_n 3, 1) := by decide +kernel
theorem dX7_mix_22 : decode cX7_mix 22 = .ok (.iconst 0, 1) := by decide +kernel
theorem dX7_mix_23 : decode cX7_mix 23 = .ok (.iconst 1, 1) := by decide +kernel
theorem dX7_mix_24 : decode cX7_mix 24 = .ok (.invokestatic 72, 3) := by decide +kernel
theorem dX7_mix_27 : decode cX7_mix 27 = .ok (.ifCond .ne 5, 3) := by decide +kernel
theorem dX7_mix_30 : decode cX7_mix 30 = .ok (.iconst (-1), 1) := by decide +kernel
theorem dX7_mix_31 : decode cX7_mix 31 = .ok (.ireturn, 1) := by decide +kernel
theorem dX7_mix_32 : decode cX7_mix 32 = .ok (.iconst 0, 1) := by decide +kernel
theorem dX7_mix_33 : decode cX7_mix 33 = .ok (.istore 4, 2) := by decide +kernel
theorem dX7_mix_35 : decode cX7_mix 35 = .ok (.bipush (-9), 2) := by decide +kernel
theorem dX7_mix_37 : decode cX7_mix 37 = .ok (.istore 5, 2) := by decide +kernel
theorem dX7_mix_39 : decode cX7_mix 39 = .ok (.iconst 0, 1) := by decide +kernel
theorem dX7_mix_40 : decode cX7_mix 40 = .ok (.istore 6, 2) := by decide +kernel
theorem dX7_mix_42 : decode cX7_mix 42 = .ok (.iload 6, 2) := by decide +kernel
theorem dX7_mix_44 : decode cX7_mix 44 = .ok (.aload_n 0, 1) := by decide +kernel
theorem dX7_mix_45 : decode cX7_mix 45 = .ok (.getfield 10, 3) := by decide +kernel
theorem dX7_mix_48 : decode cX7_mix 48 = .ok (.getfield 172, 3) := by decide +kernel
theorem dX7_mix_51 : decode cX7_mix 51 = .ok (.if_icmp .ge 85, 3) := by decide +kernel
theorem dX7_mix_54 : decode cX7_mix 54 = .ok (.iload 6, 2) := by decide +kernel
theorem dX7_mix_56 : decode cX7_mix 56 = .ok (.iconst 1, 1) := by decide +kernel
theorem dX7_mix_57 : decode cX7_mix 57 = .ok (.iadd, 1) := by decide +kernel
theorem dX7_mix_58 : decode cX7_mix 58 = .ok (.istore 7, 2) := by decide +kernel
theorem dX7_mix_60 : decode cX7_mix 60 = .ok (.iload 7, 2) := by decide +kernel
theorem dX7_mix_62 : decode cX7_mix 62 = .ok (.aload_n 0, 1) := by decide +kernel
theorem dX7_mix_63 : decode cX7_mix 63 = .ok (.getfield 10, 3) := by decide +kernel
theorem dX7_mix_66 : decode cX7_mix 66 = .ok (.getfield 172, 3) := by decide +kernel
theorem dX7_mix_69 : decode cX7_mix 69 = .ok (.if_icmp .ge 61, 3) := by decide +kernel
theorem dX7_mix_72 : decode cX7_mix 72 = .ok (.aload_n 0, 1) := by decide +kernel
theorem dX7_mix_73 : decode cX7_mix 73 = .ok (.getfield 10, 3) := by decide +kernel
theorem dX7_mix_76 : decode cX7_mix 76 = .ok (.iload 6, 2) := by decide +kernel
theorem dX7_mix_78 : decode cX7_mix 78 = .ok (.iload 7, 2) := by decide +kernel
theorem dX7_mix_80 : decode cX7_mix 80 = .ok (.iload_n 1, 1) := by decide +kernel
theorem dX7_mix_81 : decode cX7_mix 81 = .ok (.iload_n 2, 1) := by decide +kernel
theorem dX7_mix_82 : decode cX7_mix 82 = .ok (.invokevirtual 193, 3) := by decide +kernel
theorem dX7_mix_85 : decode cX7_mix 85 = .ok (.istore 8, 2) := by decide +kernel
theorem dX7_mix_87 : decode cX7_mix 87 = .ok (.iload 8, 2) := by decide +kernel
theorem dX7_mix_89 : decode cX7_mix 89 = .ok (.ifCond .le 35, 3) := by decide +kernel
theorem dX7_mix_92 : decode cX7_mix 92 = .ok (.iinc 4 1, 3) := by decide +kernel
theorem dX7_mix_95 : decode cX7_mix 95 = .ok (.iload 5, 2) := by decide +kernel
theorem dX7_mix_97 : decode cX7_mix 97 = .ok (.bipush (-9), 2) := by decide +kernel
theorem dX7_mix_99 : decode cX7_mix 99 = .ok (.if_icmp .ne 21, 3) := by decide +kernel
theorem dX7_mix_102 : decode cX7_mix 102 = .ok (.sipush 1000, 3) := by decide +kernel
theorem dX7_mix_105 : decode cX7_mix 105 = .ok (.iload 6, 2) := by decide +kernel
theorem dX7_mix_107 : decode cX7_mix 107 = .ok (.imul, 1) := by decide +kernel
theorem dX7_mix_108 : decode cX7_mix 108 = .ok (.bipush 100, 2) := by decide +kernel
theorem dX7_mix_110 : decode cX7_mix 110 = .ok (.iload 7, 2) := by decide +kernel
theorem dX7_mix_112 : decode cX7_mix 112 = .ok (.imul, 1) := by decide +kernel
theorem dX7_mix_113 : decode cX7_mix 113 = .ok (.iadd, 1) := by decide +kernel
theorem dX7_mix_114 : decode cX7_mix 114 = .ok (.iload 8, 2) := by decide +kernel
theorem dX7_mix_116 : decode cX7_mix 116 = .ok (.iadd, 1) := by decide +kernel
theorem dX7_mix_117 : decode cX7_mix 117 = .ok (.goto 5, 3) := by decide +kernel
theorem dX7_mix_120 : decode cX7_mix 120 = .ok (.iload 5, 2) := by decide +kernel
theorem dX7_mix_122 : decode cX7_mix 122 = .ok (.istore 5, 2) := by decide +kernel
theorem dX7_mix_124 : decode cX7_mix 124 = .ok (.iinc 7 1, 3) := by decide +kernel
theorem dX7_mix_127 : decode cX7_mix 127 = .ok (.goto (-67), 3) := by decide +kernel
theorem dX7_mix_130 : decode cX7_mix 130 = .ok (.iinc 6 1, 3) := by decide +kernel
theorem dX7_mix_133 : decode cX7_mix 133 = .ok (.goto (-91), 3) := by decide +kernel
theorem dX7_mix_136 : decode cX7_mix 136 = .ok (.iload_n 3, 1) := by decide +kernel
theorem dX7_mix_137 : decode cX7_mix 137 = .ok (.ifCond .ne 8, 3) := by decide +kernel
theorem dX7_mix_140 : decode cX7_mix 140 = .ok (.iload 4, 2) := by decide +kernel
theorem dX7_mix_142 : decode cX7_mix 142 = .ok (.goto 5, 3) := by decide +kernel
theorem dX7_mix_145 : decode cX7_mix 145 = .ok (.iload 5, 2) := by decide +kernel
theorem dX7_mix_147 : decode cX7_mix 147 = .ok (.ireturn, 1) := by decide +kernel
theorem dX7_levels_0 : decode cX7_levels 0 = .ok (.iload_n 1, 1) := by decide +kernel
theorem dX7_levels_1 : decode cX7_levels 1 = .ok (.iconst 0, 1) := by decide +kernel
theorem dX7_levels_2 : decode cX7_levels 2 = .ok (.bipush 60, 2) := by decide +kernel
theorem dX7_levels_4 : decode cX7_levels 4 = .ok (.invokestatic 72, 3) := by decide +kernel
theorem dX7_levels_7 : decode cX7_levels 7 = .ok (.ifCond .eq 25, 3) := by decide +kernel
theorem dX7_levels_10 : decode cX7_levels 10 = .ok (.aload_n 0, 1) := by decide +kernel
theorem dX7_levels_11 : decode cX7_levels 11 = .ok (.getfield 10, 3) := by decide +kernel
theorem dX7_levels_14 : decode cX7_levels 14 = .ok (.iload_n 2, 1) := by decide +kernel
theorem dX7_levels_15 : decode cX7_levels 15 = .ok (.invokevirtual 103, 3) := by decide +kernel
theorem dX7_levels_18 : decode cX7_levels 18 = .ok (.ifCond .eq 14, 3) := by decide +kernel
theorem dX7_levels_21 : decode cX7_levels 21 = .ok (.iload_n 3, 1) := by decide +kernel
theorem dX7_levels_22 : decode cX7_levels 22 = .ok (.iconst 0, 1) := by decide +kernel
theorem dX7_levels_23 : decode cX7_levels 23 = .ok (.sipush 420, 3) := by decide +kernel
theorem dX7_levels_26 : decode cX7_levels 26 = .ok (.invokestatic 72, 3) := by decide +kernel
theorem dX7_levels_29 : decode cX7_levels 29 = .ok (.ifCond .ne 5, 3) := by decide +kernel
theorem dX7_levels_32 : decode cX7_levels 32 = .ok (.iconst (-1), 1) := by decide +kernel
theorem dX7_levels_33 : decode cX7_levels 33 = .ok (.ireturn, 1) := by decide +kernel
theorem dX7_levels_34 : decode cX7_levels 34 = .ok (.aload_n 0, 1) := by decide +kernel
theorem dX7_levels_35 : decode cX7_levels 35 = .ok (.getfield 50, 3) := by decide +kernel
theorem dX7_levels_38 : decode cX7_levels 38 = .ok (.iload_n 1, 1) := by decide +kernel
theorem dX7_levels_39 : decode cX7_levels 39 = .ok (.iload_n 2, 1) := by decide +kernel
theorem dX7_levels_40 : decode cX7_levels 40 = .ok (.iload_n 3, 1) := by decide +kernel
theorem dX7_levels_41 : decode cX7_levels 41 = .ok (.invokevirtual 197, 3) := by decide +kernel
theorem dX7_levels_44 : decode cX7_levels 44 = .ok (.ifCond .eq 13, 3) := by decide +kernel
theorem dX7_levels_47 : decode cX7_levels 47 = .ok (.aload_n 0, 1) := by decide +kernel
theorem dX7_levels_48 : decode cX7_levels 48 = .ok (.getfield 50, 3) := by decide +kernel
theorem dX7_levels_51 : decode cX7_levels 51 = .ok (.getfield 100, 3) := by decide +kernel
theorem dX7_levels_54 : decode cX7_levels 54 = .ok (.goto 5, 3) := by decide +kernel
theorem dX7_levels_57 : decode cX7_levels 57 = .ok (.bipush (-3), 2) := by decide +kernel
theorem dX7_levels_59 : decode cX7_levels 59 = .ok (.ireturn, 1) := by decide +kernel
theorem dX7_forget_0 : decode cX7_forget 0 = .ok (.aload_n 0, 1) := by decide +kernel
theorem dX7_forget_1 : decode cX7_forget 1 = .ok (.getfield 50, 3) := by decide +kernel
theorem dX7_forget_4 : decode cX7_forget 4 = .ok (.getfield 100, 3) := by decide +kernel
theorem dX7_forget_7 : decode cX7_forget 7 = .ok (.istore_n 1, 1) := by decide +kernel
theorem dX7_forget_8 : decode cX7_forget 8 = .ok (.aload_n 0, 1) := by decide +kernel
theorem dX7_forget_9 : decode cX7_forget 9 = .ok (.getfield 50, 3) := by decide +kernel
theorem dX7_forget_12 : decode cX7_forget 12 = .ok (.iconst 0, 1) := by decide +kernel
theorem dX7_forget_13 : decode cX7_forget 13 = .ok (.putfield 100, 3) := by decide +kernel
theorem dX7_forget_16 : decode cX7_forget 16 = .ok (.iload_n 1, 1) := by decide +kernel
theorem dX7_forget_17 : decode cX7_forget 17 = .ok (.ireturn, 1) := by decide +kernel
theorem dX7_theft_0 : decode cX7_theft 0 = .ok (.iload_n 1, 1) := by decide +kernel
theorem dX7_theft_1 : decode cX7_theft 1 = .ok (.iconst 0, 1) := by decide +kernel
theorem dX7_theft_2 : decode cX7_theft 2 = .ok (.iconst 2, 1) := by decide +kernel
theorem dX7_theft_3 : decode cX7_theft 3 = .ok (.invokestatic 72, 3) := by decide +kernel
theorem dX7_theft_6 : decode cX7_theft 6 = .ok (.ifCond .ne 5, 3) := by decide +kernel
theorem dX7_theft_9 : decode cX7_theft 9 = .ok (.iconst (-1), 1) := by decide +kernel
theorem dX7_theft_10 : decode cX7_theft 10 = .ok (.ireturn, 1) := by decide +kernel
theorem dX7_theft_11 : decode cX7_theft 11 = .ok (.iconst 0, 1) := by decide +kernel
theorem dX7_theft_12 : decode cX7_theft 12 = .ok (.istore_n 2, 1) := by decide +kernel
theorem dX7_theft_13 : decode cX7_theft 13 = .ok (.bipush (-9), 2) := by decide +kernel
theorem dX7_theft_15 : decode cX7_theft 15 = .ok (.istore_n 3, 1) := by decide +kernel
theorem dX7_theft_16 : decode cX7_theft 16 = .ok (.iconst 0, 1) := by decide +kernel
theorem dX7_theft_17 : decode cX7_theft 17 = .ok (.istore 4, 2) := by decide +kernel
theorem dX7_theft_19 : decode cX7_theft 19 = .ok (.iconst 0, 1) := by decide +kernel
theorem dX7_theft_20 : decode cX7_theft 20 = .ok (.istore 5, 2) := by decide +kernel
theorem dX7_theft_22 : decode cX7_theft 22 = .ok (.iload 5, 2) := by decide +kernel
theorem dX7_theft_24 : decode cX7_theft 24 = .ok (.aload_n 0, 1) := by decide +kernel
theorem dX7_theft_25 : decode cX7_theft 25 = .ok (.getfield 10, 3) := by decide +kernel
theorem dX7_theft_28 : decode cX7_theft 28 = .ok (.getfield 172, 3) := by decide +kernel
theorem dX7_theft_31 : decode cX7_theft 31 = .ok (.if_icmp .ge 83, 3) := by decide +kernel
theorem dX7_theft_34 : decode cX7_theft 34 = .ok (.bipush 20, 2) := by decide +kernel
theorem dX7_theft_36 : decode cX7_theft 36 = .ok (.aload_n 0, 1) := by decide +kernel
theorem dX7_theft_37 : decode cX7_theft 37 = .ok (.getfield 28, 3) := by decide +kernel
theorem dX7_theft_40 : decode cX7_theft 40 = .ok (.iload 5, 2) := by decide +kernel
theorem dX7_theft_42 : decode cX7_theft 42 = .ok (.invokevirtual 116, 3) := by decide +kernel
theorem dX7_theft_45 : decode cX7_theft 45 = .ok (.invokestatic 199, 3) := by decide +kernel
theorem dX7_theft_48 : decode cX7_theft 48 = .ok (.istore 6, 2) := by decide +kernel
theorem dX7_theft_50 : decode cX7_theft 50 = .ok (.iconst 1, 1) := by decide +kernel
theorem dX7_theft_51 : decode cX7_theft 51 = .ok (.istore 7, 2) := by decide +kernel
theorem dX7_theft_53 : decode cX7_theft 53 = .ok (.iload 7, 2) := by decide +kernel
theorem dX7_theft_55 : decode cX7_theft 55 = .ok (.iload 6, 2) := by decide +kernel
theorem dX7_theft_57 : decode cX7_theft 57 = .ok (.if_icmp .gt 51, 3) := by decide +kernel
theorem dX7_theft_60 : decode cX7_theft 60 = .ok (.aload_n 0, 1) := by decide +kernel
theorem dX7_theft_61 : decode cX7_theft 61 = .ok (.iload 5, 2) := by decide +kernel
theorem dX7_theft_63 : decode cX7_theft 63 = .ok (.iload 7, 2) := by decide +kernel
theorem dX7_theft_65 : decode cX7_theft 65 = .ok (.invokevirtual 202, 3) := by decide +kernel
theorem dX7_theft_68 : decode cX7_theft 68 = .ok (.ifCond .eq 34, 3) := by decide +kernel
theorem dX7_theft_71 : decode cX7_theft 71 = .ok (.iinc 2 1, 3) := by decide +kernel
theorem dX7_theft_74 : decode cX7_theft 74 = .ok (.iload_n 3, 1) := by decide +kernel
theorem dX7_theft_75 : decode cX7_theft 75 = .ok (.bipush (-9), 2) := by decide +kernel
theorem dX7_theft_77 : decode cX7_theft 77 = .ok (.if_icmp .ne 14, 3) := by decide +kernel
theorem dX7_theft_80 : decode cX7_theft 80 = .ok (.bipush 100, 2) := by decide +kernel
theorem dX7_theft_82 : decode cX7_theft 82 = .ok (.iload 5, 2) := by decide +kernel
theorem dX7_theft_84 : decode cX7_theft 84 = .ok (.imul, 1) := by decide +kernel
theorem dX7_theft_85 : decode cX7_theft 85 = .ok (.iload 7, 2) := by decide +kernel
theorem dX7_theft_87 : decode cX7_theft 87 = .ok (.iadd, 1) := by decide +kernel
theorem dX7_theft_88 : decode cX7_theft 88 = .ok (.goto 4, 3) := by decide +kernel
theorem dX7_theft_91 : decode cX7_theft 91 = .ok (.iload_n 3, 1) := by decide +kernel
theorem dX7_theft_92 : decode cX7_theft 92 = .ok (.istore_n 3, 1) := by decide +kernel
theorem dX7_theft_93 : decode cX7_theft 93 = .ok (.iload 4, 2) := by decide +kernel
theorem dX7_theft_95 : decode cX7_theft 95 = .ok (.iconst 1, 1) := by decide +kernel
theorem dX7_theft_96 : decode cX7_theft 96 = .ok (.iload 5, 2) := by decide +kernel
theorem dX7_theft_98 : decode cX7_theft 98 = .ok (.ishl, 1) := by decide +kernel
theorem dX7_theft_99 : decode cX7_theft 99 = .ok (.ior, 1) := by decide +kernel
theorem dX7_theft_100 : decode cX7_theft 100 = .ok (.istore 4, 2) := by decide +kernel
theorem dX7_theft_102 : decode cX7_theft 102 = .ok (.iinc 7 1, 3) := by decide +kernel
theorem dX7_theft_105 : decode cX7_theft 105 = .ok (.goto (-52), 3) := by decide +kernel
theorem dX7_theft_108 : decode cX7_theft 108 = .ok (.iinc 5 1, 3) := by decide +kernel
theorem dX7_theft_111 : decode cX7_theft 111 = .ok (.goto (-89), 3) := by decide +kernel
theorem dX7_theft_114 : decode cX7_theft 114 = .ok (.iload_n 1, 1) := by decide +kernel
theorem dX7_theft_115 : decode cX7_theft 115 = .ok (.ifCond .ne 7, 3) := by decide +kernel
theorem dX7_theft_118 : decode cX7_theft 118 = .ok (.iload_n 2, 1) := by decide +kernel
theorem dX7_theft_119 : decode cX7_theft 119 = .ok (.goto 14, 3) := by decide +kernel
theorem dX7_theft_122 : decode cX7_theft 122 = .ok (.iload_n 1, 1) := by decide +kernel
theorem dX7_theft_123 : decode cX7_theft 123 = .ok (.iconst 1, 1) := by decide +kernel
theorem dX7_theft_124 : decode cX7_theft 124 = .ok (.if_icmp .ne 7, 3) := by decide +kernel
theorem dX7_theft_127 : decode cX7_theft 127 = .ok (.iload_n 3, 1) := by decide +kernel
theorem dX7_theft_128 : decode cX7_theft 128 = .ok (.goto 5, 3) := by decide +kernel
theorem dX7_theft_131 : decode cX7_theft 131 = .ok (.iload 4, 2) := by decide +kernel
theorem dX7_theft_133 : decode cX7_theft 133 = .ok (.ireturn, 1) := by decide +kernel
theorem dX7_areLevelsSo_0 : decode cX7_areLevelsSo 0 = .ok (.iconst 0, 1) := by decide +kernel
theorem dX7_areLevelsSo_1 : decode cX7_areLevelsSo 1 = .ok (.istore_n 3, 1) := by decide +kernel
theorem dX7_areLevelsSo_2 : decode cX7_areLevelsSo 2 = .ok (.iload_n 3, 1) := by decide +kernel
theorem dX7_areLevelsSo_3 : decode cX7_areLevelsSo 3 = .ok (.aload_n 0, 1) := by decide +kernel
theorem dX7_areLevelsSo_4 : decode cX7_areLevelsSo 4 = .ok (.getfield 50, 3) := by decide +kernel
theorem dX7_areLevelsSo_7 : decode cX7_areLevelsSo 7 = .ok (.getfield 100, 3) := by decide +kernel
theorem dX7_areLevelsSo_10 : decode cX7_areLevelsSo 10 = .ok (.if_icmp .ge 74, 3) := by decide +kernel
theorem dX7_areLevelsSo_13 : decode cX7_areLevelsSo 13 = .ok (.aload_n 0, 1) := by decide +kernel
theorem dX7_areLevelsSo_14 : decode cX7_areLevelsSo 14 = .ok (.getfield 50, 3) := by decide +kernel
theorem dX7_areLevelsSo_17 : decode cX7_areLevelsSo 17 = .ok (.getfield 205, 3) := by decide +kernel
theorem dX7_areLevelsSo_20 : decode cX7_areLevelsSo 20 = .ok (.iload_n 3, 1) := by decide +kernel
theorem dX7_areLevelsSo_21 : decode cX7_areLevelsSo 21 = .ok (.iaload, 1) := by decide +kernel
theorem dX7_areLevelsSo_22 : decode cX7_areLevelsSo 22 = .ok (.istore 4, 2) := by decide +kernel
theorem dX7_areLevelsSo_24 : decode cX7_areLevelsSo 24 = .ok (.aload_n 0, 1) := by decide +kernel
theorem dX7_areLevelsSo_25 : decode cX7_areLevelsSo 25 = .ok (.getfield 28, 3) := by decide +kernel
theorem dX7_areLevelsSo_28 : decode cX7_areLevelsSo 28 = .ok (.iload 4, 2) := by decide +kernel
theorem dX7_areLevelsSo_30 : decode cX7_areLevelsSo 30 = .ok (.invokevirtual 116, 3) := by decide +kernel
theorem dX7_areLevelsSo_33 : decode cX7_areLevelsSo 33 = .ok (.iload 4, 2) := by decide +kernel
theorem dX7_areLevelsSo_35 : decode cX7_areLevelsSo 35 = .ok (.iload_n 1, 1) := by decide +kernel
theorem dX7_areLevelsSo_36 : decode cX7_areLevelsSo 36 = .ok (.if_icmp .ne 7, 3) := by decide +kernel
theorem dX7_areLevelsSo_39 : decode cX7_areLevelsSo 39 = .ok (.iload_n 2, 1) := by decide +kernel
theorem dX7_areLevelsSo_40 : decode cX7_areLevelsSo 40 = .ok (.goto 4, 3) := by decide +kernel
theorem dX7_areLevelsSo_43 : decode cX7_areLevelsSo 43 = .ok (.iconst 0, 1) := by decide +kernel
theorem dX7_areLevelsSo_44 : decode cX7_areLevelsSo 44 = .ok (.isub, 1) := by decide +kernel
theorem dX7_areLevelsSo_45 : decode cX7_areLevelsSo 45 = .ok (.istore 5, 2) := by decide +kernel
theorem dX7_areLevelsSo_47 : decode cX7_areLevelsSo 47 = .ok (.aload_n 0, 1) := by decide +kernel
theorem dX7_areLevelsSo_48 : decode cX7_areLevelsSo 48 = .ok (.iload 5, 2) := by decide +kernel
theorem dX7_areLevelsSo_50 : decode cX7_areLevelsSo 50 = .ok (.aload_n 0, 1) := by decide +kernel
theorem dX7_areLevelsSo_51 : decode cX7_areLevelsSo 51 = .ok (.getfield 50, 3) := by decide +kernel
theorem dX7_areLevelsSo_54 : decode cX7_areLevelsSo 54 = .ok (.getfield 207, 3) := by decide +kernel
theorem dX7_areLevelsSo_57 : decode cX7_areLevelsSo 57 = .ok (.iload_n 3, 1) := by decide +kernel
theorem dX7_areLevelsSo_58 : decode cX7_areLevelsSo 58 = .ok (.iaload, 1) := by decide +kernel
theorem dX7_areLevelsSo_59 : decode cX7_areLevelsSo 59 = .ok (.iload 4, 2) := by decide +kernel
theorem dX7_areLevelsSo_61 : decode cX7_areLevelsSo 61 = .ok (.invokevirtual 169, 3) := by decide +kernel
theorem dX7_areLevelsSo_64 : decode cX7_areLevelsSo 64 = .ok (.aload_n 0, 1) := by decide +kernel
theorem dX7_areLevelsSo_65 : decode cX7_areLevelsSo 65 = .ok (.getfield 50, 3) := by decide +kernel
theorem dX7_areLevelsSo_68 : decode cX7_areLevelsSo 68 = .ok (.getfield 209, 3) := by decide +kernel
theorem dX7_areLevelsSo_71 : decode cX7_areLevelsSo 71 = .ok (.iload_n 3, 1) := by decide +kernel
theorem dX7_areLevelsSo_72 : decode cX7_areLevelsSo 72 = .ok (.iaload, 1) := by decide +kernel
theorem dX7_areLevelsSo_73 : decode cX7_areLevelsSo 73 = .ok (.if_icmp .eq 5, 3) := by decide +kernel
theorem dX7_areLevelsSo_76 : decode cX7_areLevelsSo 76 = .ok (.iconst 0, 1) := by decide +kernel
theorem dX7_areLevelsSo_77 : decode cX7_areLevelsSo 77 = .ok (.ireturn, 1) := by decide +kernel
theorem dX7_areLevelsSo_78 : decode cX7_areLevelsSo 78 = .ok (.iinc 3 1, 3) := by decide +kernel
theorem dX7_areLevelsSo_81 : decode cX7_areLevelsSo 81 = .ok (.goto (-79), 3) := by decide +kernel
theorem dX7_areLevelsSo_84 : decode cX7_areLevelsSo 84 = .ok (.iconst 1, 1) := by decide +kernel
theorem dX7_areLevelsSo_85 : decode cX7_areLevelsSo 85 = .ok (.ireturn, 1) := by decide +kernel
theorem dX7_shelves_0 : decode cX7_shelves 0 = .ok (.aload_n 0, 1) := by decide +kernel
theorem dX7_shelves_1 : decode cX7_shelves 1 = .ok (.getfield 57, 3) := by decide +kernel
theorem dX7_shelves_4 : decode cX7_shelves 4 = .ok (.aload_n 0, 1) := by decide +kernel
theorem dX7_shelves_5 : decode cX7_shelves 5 = .ok (.getfield 10, 3) := by decide +kernel
theorem dX7_shelves_8 : decode cX7_shelves 8 = .ok (.aload_n 0, 1) := by decide +kernel
theorem dX7_shelves_9 : decode cX7_shelves 9 = .ok (.getfield 28, 3) := by decide +kernel
theorem dX7_shelves_12 : decode cX7_shelves 12 = .ok (.invokevirtual 180, 3) := by decide +kernel
theorem dX7_shelves_15 : decode cX7_shelves 15 = .ok (.aload_n 0, 1) := by decide +kernel
theorem dX7_shelves_16 : decode cX7_shelves 16 = .ok (.getfield 57, 3) := by decide +kernel
theorem dX7_shelves_19 : decode cX7_shelves 19 = .ok (.invokevirtual 212, 3) := by decide +kernel
theorem dX7_shelves_22 : decode cX7_shelves 22 = .ok (.ireturn, 1) := by decide +kernel
theorem dX7_beside_0 : decode cX7_beside 0 = .ok (.aload_n 0, 1) := by decide +kernel
theorem dX7_beside_1 : decode cX7_beside 1 = .ok (.getfield 10, 3) := by decide +kernel
theorem dX7_beside_4 : decode cX7_beside 4 = .ok (.iload_n 1, 1) := by decide +kernel
theorem dX7_beside_5 : decode cX7_beside 5 = .ok (.invokevirtual 103, 3) := by decide +kernel
theorem dX7_beside_8 : decode cX7_beside 8 = .ok (.ifCond .ne 5, 3) := by decide +kernel
theorem dX7_beside_11 : decode cX7_beside 11 = .ok (.iconst (-1), 1) := by decide +kernel
theorem dX7_beside_12 : decode cX7_beside 12 = .ok (.ireturn, 1) := by decide +kernel
theorem dX7_beside_13 : decode cX7_beside 13 = .ok (.aload_n 0, 1) := by decide +kernel
theorem dX7_beside_14 : decode cX7_beside 14 = .ok (.getfield 57, 3) := by decide +kernel
theorem dX7_beside_17 : decode cX7_beside 17 = .ok (.aload_n 0, 1) := by decide +kernel
theorem dX7_beside_18 : decode cX7_beside 18 = .ok (.getfield 10, 3) := by decide +kernel
theorem dX7_beside_21 : decode cX7_beside 21 = .ok (.aload_n 0, 1) := by decide +kernel
theorem dX7_beside_22 : decode cX7_beside 22 = .ok (.getfield 28, 3) := by decide +kernel
theorem dX7_beside_25 : decode cX7_beside 25 = .ok (.invokevirtual 180, 3) := by decide +kernel
theorem dX7_beside_28 : decode cX7_beside 28 = .ok (.aload_n 0, 1) := by decide +kernel
theorem dX7_beside_29 : decode cX7_beside 29 = .ok (.getfield 57, 3) := by decide +kernel
theorem dX7_beside_32 : decode cX7_beside 32 = .ok (.iload_n 1, 1) := by decide +kernel
theorem dX7_beside_33 : decode cX7_beside 33 = .ok (.invokevirtual 215, 3) := by decide +kernel
theorem dX7_beside_36 : decode cX7_beside 36 = .ok (.ireturn, 1) := by decide +kernel
theorem dX7_odds_0 : decode cX7_odds 0 = .ok (.iload_n 1, 1) := by decide +kernel
theorem dX7_odds_1 : decode cX7_odds 1 = .ok (.iconst 0, 1) := by decide +kernel
theorem dX7_odds_2 : decode cX7_odds 2 = .ok (.bipush 10, 2) := by decide +kernel
theorem dX7_odds_4 : decode cX7_odds 4 = .ok (.invokestatic 72, 3) := by decide +kernel
theorem dX7_odds_7 : decode cX7_odds 7 = .ok (.ifCond .eq 22, 3) := by decide +kernel
theorem dX7_odds_10 : decode cX7_odds 10 = .ok (.iload_n 2, 1) := by decide +kernel
theorem dX7_odds_11 : decode cX7_odds 11 = .ok (.iconst 0, 1) := by decide +kernel
theorem dX7_odds_12 : decode cX7_odds 12 = .ok (.bipush 7, 2) := by decide +kernel
theorem dX7_odds_14 : decode cX7_odds 14 = .ok (.invokestatic 72, 3) := by decide +kernel
theorem dX7_odds_17 : decode cX7_odds 17 = .ok (.ifCond .eq 12, 3) := by decide +kernel
theorem dX7_odds_20 : decode cX7_odds 20 = .ok (.iload_n 3, 1) := by decide +kernel
theorem dX7_odds_21 : decode cX7_odds 21 = .ok (.iconst 0, 1) := by decide +kernel
theorem dX7_odds_22 : decode cX7_odds 22 = .ok (.iconst 1, 1) := by decide +kernel
theorem dX7_odds_23 : decode cX7_odds 23 = .ok (.invokestatic 72, 3) := by decide +kernel
theorem dX7_odds_26 : decode cX7_odds 26 = .ok (.ifCond .ne 5, 3) := by decide +kernel
theorem dX7_odds_29 : decode cX7_odds 29 = .ok (.iconst (-1), 1) := by decide +kernel
theorem dX7_odds_30 : decode cX7_odds 30 = .ok (.ireturn, 1) := by decide +kernel
theorem dX7_odds_31 : decode cX7_odds 31 = .ok (.aload_n 0, 1) := by decide +kernel
theorem dX7_odds_32 : decode cX7_odds 32 = .ok (.getfield 64, 3) := by decide +kernel
theorem dX7_odds_35 : decode cX7_odds 35 = .ok (.iload_n 1, 1) := by decide +kernel
theorem dX7_odds_36 : decode cX7_odds 36 = .ok (.iload_n 2, 1) := by decide +kernel
theorem dX7_odds_37 : decode cX7_odds 37 = .ok (.aload_n 0, 1) := by decide +kernel
theorem dX7_odds_38 : decode cX7_odds 38 = .ok (.getfield 28, 3) := by decide +kernel
theorem dX7_odds_41 : decode cX7_odds 41 = .ok (.invokevirtual 142, 3) := by decide +kernel
theorem dX7_odds_44 : decode cX7_odds 44 = .ok (.invokestatic 218, 3) := by decide +kernel
theorem dX7_odds_47 : decode cX7_odds 47 = .ok (.invokevirtual 223, 3) := by decide +kernel
theorem dX7_odds_50 : decode cX7_odds 50 = .ok (.iload_n 3, 1) := by decide +kernel
theorem dX7_odds_51 : decode cX7_odds 51 = .ok (.ifCond .ne 13, 3) := by decide +kernel
theorem dX7_odds_54 : decode cX7_odds 54 = .ok (.aload_n 0, 1) := by decide +kernel
theorem dX7_odds_55 : decode cX7_odds 55 = .ok (.getfield 64, 3) := by decide +kernel
theorem dX7_odds_58 : decode cX7_odds 58 = .ok (.getfield 227, 3) := by decide +kernel
theorem dX7_odds_61 : decode cX7_odds 61 = .ok (.goto 10, 3) := by decide +kernel
theorem dX7_odds_64 : decode cX7_odds 64 = .ok (.aload_n 0, 1) := by decide +kernel
theorem dX7_odds_65 : decode cX7_odds 65 = .ok (.getfield 64, 3) := by decide +kernel
theorem dX7_odds_68 : decode cX7_odds 68 = .ok (.getfield 230, 3) := by decide +kernel
theorem dX7_odds_71 : decode cX7_odds 71 = .ok (.ireturn, 1) := by decide +kernel
theorem dX7_rate_0 : decode cX7_rate 0 = .ok (.aload_n 0, 1) := by decide +kernel
theorem dX7_rate_1 : decode cX7_rate 1 = .ok (.getfield 10, 3) := by decide +kernel
theorem dX7_rate_4 : decode cX7_rate 4 = .ok (.iload_n 2, 1) := by decide +kernel
theorem dX7_rate_5 : decode cX7_rate 5 = .ok (.invokevirtual 103, 3) := by decide +kernel
theorem dX7_rate_8 : decode cX7_rate 8 = .ok (.ifCond .ne 6, 3) := by decide +kernel
theorem dX7_rate_11 : decode cX7_rate 11 = .ok (.ldc 233, 2) := by decide +kernel
theorem dX7_rate_13 : decode cX7_rate 13 = .ok (.ireturn, 1) := by decide +kernel
theorem dX7_rate_14 : decode cX7_rate 14 = .ok (.iload_n 1, 1) := by decide +kernel
theorem dX7_rate_15 : decode cX7_rate 15 = .ok (.tableswitch 73 0 5 #[37, 43, 49, 55, 61, 67], 37) := by decide +kernel
theorem dX7_rate_52 : decode cX7_rate 52 = .ok (.aload_n 0, 1) := by decide +kernel
theorem dX7_rate_53 : decode cX7_rate 53 = .ok (.iload_n 2, 1) := by decide +kernel
theorem dX7_rate_54 : decode cX7_rate 54 = .ok (.invokevirtual 234, 3) := by decide +kernel
theorem dX7_rate_57 : decode cX7_rate 57 = .ok (.ireturn, 1) := by decide +kernel
theorem dX7_rate_58 : decode cX7_rate 58 = .ok (.aload_n 0, 1) := by decide +kernel
theorem dX7_rate_59 : decode cX7_rate 59 = .ok (.iload_n 2, 1) := by decide +kernel
theorem dX7_rate_60 : decode cX7_rate 60 = .ok (.invokevirtual 237, 3) := by decide +kernel
theorem dX7_rate_63 : decode cX7_rate 63 = .ok (.ireturn, 1) := by decide +kernel
theorem dX7_rate_64 : decode cX7_rate 64 = .ok (.aload_n 0, 1) := by decide +kernel
theorem dX7_rate_65 : decode cX7_rate 65 = .ok (.iload_n 2, 1) := by decide +kernel
theorem dX7_rate_66 : decode cX7_rate 66 = .ok (.invokevirtual 240, 3) := by decide +kernel
theorem dX7_rate_69 : decode cX7_rate 69 = .ok (.ireturn, 1) := by decide +kernel
theorem dX7_rate_70 : decode cX7_rate 70 = .ok (.aload_n 0, 1) := by decide +kernel
theorem dX7_rate_71 : decode cX7_rate 71 = .ok (.iload_n 2, 1) := by decide +kernel
theorem dX7_rate_72 : decode cX7_rate 72 = .ok (.invokevirtual 243, 3) := by decide +kernel
theorem dX7_rate_75 : decode cX7_rate 75 = .ok (.ireturn, 1) := by decide +kernel
theorem dX7_rate_76 : decode cX7_rate 76 = .ok (.aload_n 0, 1) := by decide +kernel
theorem dX7_rate_77 : decode cX7_rate 77 = .ok (.iload_n 2, 1) := by decide +kernel
theorem dX7_rate_78 : decode cX7_rate 78 = .ok (.invokevirtual 246, 3) := by decide +kernel
theorem dX7_rate_81 : decode cX7_rate 81 = .ok (.ireturn, 1) := by decide +kernel
theorem dX7_rate_82 : decode cX7_rate 82 = .ok (.aload_n 0, 1) := by decide +kernel
theorem dX7_rate_83 : decode cX7_rate 83 = .ok (.iload_n 2, 1) := by decide +kernel
theorem dX7_rate_84 : decode cX7_rate 84 = .ok (.invokevirtual 249, 3) := by decide +kernel
theorem dX7_rate_87 : decode cX7_rate 87 = .ok (.ireturn, 1) := by decide +kernel
theorem dX7_rate_88 : decode cX7_rate 88 = .ok (.ldc 233, 2) := by decide +kernel
theorem dX7_rate_90 : decode cX7_rate 90 = .ok (.ireturn, 1) := by decide +kernel
theorem dX7_rateOfPan_0 : decode cX7_rateOfPan 0 = .ok (.aload_n 0, 1) := by decide +kernel
theorem dX7_rateOfPan_1 : decode cX7_rateOfPan 1 = .ok (.dup, 1) := by decide +kernel
theorem dX7_rateOfPan_2 : decode cX7_rateOfPan 2 = .ok (.getfield 68, 3) := by decide +kernel
theorem dX7_rateOfPan_5 : decode cX7_rateOfPan 5 = .ok (.lconst 1, 1) := by decide +kernel
theorem dX7_rateOfPan_6 : decode cX7_rateOfPan 6 = .ok (.ladd, 1) := by decide +kernel
theorem dX7_rateOfPan_7 : decode cX7_rateOfPan 7 = .ok (.putfield 68, 3) := by decide +kernel
theorem dX7_rateOfPan_10 : decode cX7_rateOfPan 10 = .ok (.aload_n 0, 1) := by decide +kernel
theorem dX7_rateOfPan_11 : decode cX7_rateOfPan 11 = .ok (.getfield 28, 3) := by decide +kernel
theorem dX7_rateOfPan_14 : decode cX7_rateOfPan 14 = .ok (.iload_n 1, 1) := by decide +kernel
theorem dX7_rateOfPan_15 : decode cX7_rateOfPan 15 = .ok (.invokevirtual 116, 3) := by decide +kernel
theorem dX7_rateOfPan_18 : decode cX7_rateOfPan 18 = .ok (.ireturn, 1) := by decide +kernel
theorem dX7_rateOfSaucer_0 : decode cX7_rateOfSaucer 0 = .ok (.aload_n 0, 1) := by decide +kernel
theorem dX7_rateOfSaucer_1 : decode cX7_rateOfSaucer 1 = .ok (.dup, 1) := by decide +kernel
theorem dX7_rateOfSaucer_2 : decode cX7_rateOfSaucer 2 = .ok (.getfield 68, 3) := by decide +kernel
theorem dX7_rateOfSaucer_5 : decode cX7_rateOfSaucer 5 = .ok (.ldc2_w 252, 3) := by decide +kernel
theorem dX7_rateOfSaucer_8 : decode cX7_rateOfSaucer 8 = .ok (.ladd, 1) := by decide +kernel
theorem dX7_rateOfSaucer_9 : decode cX7_rateOfSaucer 9 = .ok (.putfield 68, 3) := by decide +kernel
theorem dX7_rateOfSaucer_12 : decode cX7_rateOfSaucer 12 = .ok (.aload_n 0, 1) := by decide +kernel
theorem dX7_rateOfSaucer_13 : decode cX7_rateOfSaucer 13 = .ok (.iload_n 1, 1) := by decide +kernel
theorem dX7_rateOfSaucer_14 : decode cX7_rateOfSaucer 14 = .ok (.invokevirtual 234, 3) := by decide +kernel
theorem dX7_rateOfSaucer_17 : decode cX7_rateOfSaucer 17 = .ok (.aload_n 0, 1) := by decide +kernel
theorem dX7_rateOfSaucer_18 : decode cX7_rateOfSaucer 18 = .ok (.getfield 10, 3) := by decide +kernel
theorem dX7_rateOfSaucer_21 : decode cX7_rateOfSaucer 21 = .ok (.getfield 110, 3) := by decide +kernel
theorem dX7_rateOfSaucer_24 : decode cX7_rateOfSaucer 24 = .ok (.iload_n 1, 1) := by decide +kernel
theorem dX7_rateOfSaucer_25 : decode cX7_rateOfSaucer 25 = .ok (.iaload, 1) := by decide +kernel
theorem dX7_rateOfSaucer_26 : decode cX7_rateOfSaucer 26 = .ok (.iadd, 1) := by decide +kernel
theorem dX7_rateOfSaucer_27 : decode cX7_rateOfSaucer 27 = .ok (.ireturn, 1) := by decide +kernel
theorem dX7_rateOfBottle_0 : decode cX7_rateOfBottle 0 = .ok (.aload_n 0, 1) := by decide +kernel
theorem dX7_rateOfBottle_1 : decode cX7_rateOfBottle 1 = .ok (.dup, 1) := by decide +kernel
theorem dX7_rateOfBottle_2 : decode cX7_rateOfBottle 2 = .ok (.getfield 68, 3) := by decide +kernel
theorem dX7_rateOfBottle_5 : decode cX7_rateOfBottle 5 = .ok (.ldc2_w 254, 3) := by decide +kernel
theorem dX7_rateOfBottle_8 : decode cX7_rateOfBottle 8 = .ok (.ladd, 1) := by decide +kernel
theorem dX7_rateOfBottle_9 : decode cX7_rateOfBottle 9 = .ok (.putfield 68, 3) := by decide +kernel
theorem dX7_rateOfBottle_12 : decode cX7_rateOfBottle 12 = .ok (.aload_n 0, 1) := by decide +kernel
theorem dX7_rateOfBottle_13 : decode cX7_rateOfBottle 13 = .ok (.iload_n 1, 1) := by decide +kernel
theorem dX7_rateOfBottle_14 : decode cX7_rateOfBottle 14 = .ok (.invokevirtual 234, 3) := by decide +kernel
theorem dX7_rateOfBottle_17 : decode cX7_rateOfBottle 17 = .ok (.aload_n 0, 1) := by decide +kernel
theorem dX7_rateOfBottle_18 : decode cX7_rateOfBottle 18 = .ok (.getfield 10, 3) := by decide +kernel
theorem dX7_rateOfBottle_21 : decode cX7_rateOfBottle 21 = .ok (.getfield 106, 3) := by decide +kernel
theorem dX7_rateOfBottle_24 : decode cX7_rateOfBottle 24 = .ok (.iload_n 1, 1) := by decide +kernel
theorem dX7_rateOfBottle_25 : decode cX7_rateOfBottle 25 = .ok (.iaload, 1) := by decide +kernel
theorem dX7_rateOfBottle_26 : decode cX7_rateOfBottle 26 = .ok (.isub, 1) := by decide +kernel
theorem dX7_rateOfBottle_27 : decode cX7_rateOfBottle 27 = .ok (.ireturn, 1) := by decide +kernel
theorem dX7_rateOfFont_0 : decode cX7_rateOfFont 0 = .ok (.aload_n 0, 1) := by decide +kernel
theorem dX7_rateOfFont_1 : decode cX7_rateOfFont 1 = .ok (.dup, 1) := by decide +kernel
theorem dX7_rateOfFont_2 : decode cX7_rateOfFont 2 = .ok (.getfield 68, 3) := by decide +kernel
theorem dX7_rateOfFont_5 : decode cX7_rateOfFont 5 = .ok (.ldc2_w 256, 3) := by decide +kernel
theorem dX7_rateOfFont_8 : decode cX7_rateOfFont 8 = .ok (.ladd, 1) := by decide +kernel
theorem dX7_rateOfFont_9 : decode cX7_rateOfFont 9 = .ok (.putfield 68, 3) := by decide +kernel
theorem dX7_rateOfFont_12 : decode cX7_rateOfFont 12 = .ok (.iconst 2, 1) := by decide +kernel
theorem dX7_rateOfFont_13 : decode cX7_rateOfFont 13 = .ok (.aload_n 0, 1) := by decide +kernel
theorem dX7_rateOfFont_14 : decode cX7_rateOfFont 14 = .ok (.iload_n 1, 1) := by decide +kernel
theorem dX7_rateOfFont_15 : decode cX7_rateOfFont 15 = .ok (.invokevirtual 237, 3) := by decide +kernel
theorem dX7_rateOfFont_18 : decode cX7_rateOfFont 18 = .ok (.imul, 1) := by decide +kernel
theorem dX7_rateOfFont_19 : decode cX7_rateOfFont 19 = .ok (.ireturn, 1) := by decide +kernel
theorem dX7_rateOfPhial_0 : decode cX7_rateOfPhial 0 = .ok (.aload_n 0, 1) := by decide +kernel
theorem dX7_rateOfPhial_1 : decode cX7_rateOfPhial 1 = .ok (.dup, 1) := by decide +kernel
theorem dX7_rateOfPhial_2 : decode cX7_rateOfPhial 2 = .ok (.getfield 68, 3) := by decide +kernel
theorem dX7_rateOfPhial_5 : decode cX7_rateOfPhial 5 = .ok (.ldc2_w 258, 3) := by decide +kernel
theorem dX7_rateOfPhial_8 : decode cX7_rateOfPhial 8 = .ok (.ladd, 1) := by decide +kernel
theorem dX7_rateOfPhial_9 : decode cX7_rateOfPhial 9 = .ok (.putfield 68, 3) := by decide +kernel
theorem dX7_rateOfPhial_12 : decode cX7_rateOfPhial 12 = .ok (.aload_n 0, 1) := by decide +kernel
theorem dX7_rateOfPhial_13 : decode cX7_rateOfPhial 13 = .ok (.iload_n 1, 1) := by decide +kernel
theorem dX7_rateOfPhial_14 : decode cX7_rateOfPhial 14 = .ok (.invokevirtual 240, 3) := by decide +kernel
theorem dX7_rateOfPhial_17 : decode cX7_rateOfPhial 17 = .ok (.iload_n 1, 1) := by decide +kernel
theorem dX7_rateOfPhial_18 : decode cX7_rateOfPhial 18 = .ok (.iadd, 1) := by decide +kernel
theorem dX7_rateOfPhial_19 : decode cX7_rateOfPhial 19 = .ok (.ireturn, 1) := by decide +kernel
theorem dX7_rateOfUrn_0 : decode cX7_rateOfUrn 0 = .ok (.aload_n 0, 1) := by decide +kernel
theorem dX7_rateOfUrn_1 : decode cX7_rateOfUrn 1 = .ok (.dup, 1) := by decide +kernel
theorem dX7_rateOfUrn_2 : decode cX7_rateOfUrn 2 = .ok (.getfield 68, 3) := by decide +kernel
theorem dX7_rateOfUrn_5 : decode cX7_rateOfUrn 5 = .ok (.ldc2_w 260, 3) := by decide +kernel
theorem dX7_rateOfUrn_8 : decode cX7_rateOfUrn 8 = .ok (.ladd, 1) := by decide +kernel
theorem dX7_rateOfUrn_9 : decode cX7_rateOfUrn 9 = .ok (.putfield 68, 3) := by decide +kernel
theorem dX7_rateOfUrn_12 : decode cX7_rateOfUrn 12 = .ok (.aload_n 0, 1) := by decide +kernel
theorem dX7_rateOfUrn_13 : decode cX7_rateOfUrn 13 = .ok (.iload_n 1, 1) := by decide +kernel
theorem dX7_rateOfUrn_14 : decode cX7_rateOfUrn 14 = .ok (.invokevirtual 234, 3) := by decide +kernel
theorem dX7_rateOfUrn_17 : decode cX7_rateOfUrn 17 = .ok (.aload_n 0, 1) := by decide +kernel
theorem dX7_rateOfUrn_18 : decode cX7_rateOfUrn 18 = .ok (.getfield 28, 3) := by decide +kernel
theorem dX7_rateOfUrn_21 : decode cX7_rateOfUrn 21 = .ok (.getfield 133, 3) := by decide +kernel
theorem dX7_rateOfUrn_24 : decode cX7_rateOfUrn 24 = .ok (.iadd, 1) := by decide +kernel
theorem dX7_rateOfUrn_25 : decode cX7_rateOfUrn 25 = .ok (.ireturn, 1) := by decide +kernel
theorem dX7_keep_0 : decode cX7_keep 0 = .ok (.iload_n 1, 1) := by decide +kernel
theorem dX7_keep_1 : decode cX7_keep 1 = .ok (.iconst 0, 1) := by decide +kernel
theorem dX7_keep_2 : decode cX7_keep 2 = .ok (.iconst 1, 1) := by decide +kernel
theorem dX7_keep_3 : decode cX7_keep 3 = .ok (.invokestatic 72, 3) := by decide +kernel
theorem dX7_keep_6 : decode cX7_keep 6 = .ok (.ifCond .ne 5, 3) := by decide +kernel
theorem dX7_keep_9 : decode cX7_keep 9 = .ok (.iconst (-1), 1) := by decide +kernel
theorem dX7_keep_10 : decode cX7_keep 10 = .ok (.ireturn, 1) := by decide +kernel
theorem dX7_keep_11 : decode cX7_keep 11 = .ok (.aload_n 0, 1) := by decide +kernel
theorem dX7_keep_12 : decode cX7_keep 12 = .ok (.getfield 39, 3) := by decide +kernel
theorem dX7_keep_15 : decode cX7_keep 15 = .ok (.iload_n 1, 1) := by decide +kernel
theorem dX7_keep_16 : decode cX7_keep 16 = .ok (.aaload, 1) := by decide +kernel
theorem dX7_keep_17 : decode cX7_keep 17 = .ok (.aload_n 0, 1) := by decide +kernel
theorem dX7_keep_18 : decode cX7_keep 18 = .ok (.getfield 28, 3) := by decide +kernel
theorem dX7_keep_21 : decode cX7_keep 21 = .ok (.invokevirtual 262, 3) := by decide +kernel
theorem dX7_keep_24 : decode cX7_keep 24 = .ok (.aload_n 0, 1) := by decide +kernel
theorem dX7_keep_25 : decode cX7_keep 25 = .ok (.getfield 43, 3) := by decide +kernel
theorem dX7_keep_28 : decode cX7_keep 28 = .ok (.iload_n 1, 1) := by decide +kernel
theorem dX7_keep_29 : decode cX7_keep 29 = .ok (.iconst 1, 1) := by decide +kernel
theorem dX7_keep_30 : decode cX7_keep 30 = .ok (.bastore, 1) := by decide +kernel
theorem dX7_keep_31 : decode cX7_keep 31 = .ok (.aload_n 0, 1) := by decide +kernel
theorem dX7_keep_32 : decode cX7_keep 32 = .ok (.getfield 28, 3) := by decide +kernel
theorem dX7_keep_35 : decode cX7_keep 35 = .ok (.getfield 133, 3) := by decide +kernel
theorem dX7_keep_38 : decode cX7_keep 38 = .ok (.ireturn, 1) := by decide +kernel
theorem dX7_back_0 : decode cX7_back 0 = .ok (.iload_n 1, 1) := by decide +kernel
theorem dX7_back_1 : decode cX7_back 1 = .ok (.iconst 0, 1) := by decide +kernel
theorem dX7_back_2 : decode cX7_back 2 = .ok (.iconst 1, 1) := by decide +kernel
theorem dX7_back_3 : decode cX7_back 3 = .ok (.invokestatic 72, 3) := by decide +kernel
theorem dX7_back_6 : decode cX7_back 6 = .ok (.ifCond .ne 5, 3) := by decide +kernel
theorem dX7_back_9 : decode cX7_back 9 = .ok (.iconst (-1), 1) := by decide +kernel
theorem dX7_back_10 : decode cX7_back 10 = .ok (.ireturn, 1) := by decide +kernel
theorem dX7_back_11 : decode cX7_back 11 = .ok (.aload_n 0, 1) := by decide +kernel
theorem dX7_back_12 : decode cX7_back 12 = .ok (.getfield 43, 3) := by decide +kernel
theorem dX7_back_15 : decode cX7_back 15 = .ok (.iload_n 1, 1) := by decide +kernel
theorem dX7_back_16 : decode cX7_back 16 = .ok (.baload, 1) := by decide +kernel
theorem dX7_back_17 : decode cX7_back 17 = .ok (.ifCond .ne 6, 3) := by decide +kernel
theorem dX7_back_20 : decode cX7_back 20 = .ok (.bipush (-2), 2) := by decide +kernel
theorem dX7_back_22 : decode cX7_back 22 = .ok (.ireturn, 1) := by decide +kernel
theorem dX7_back_23 : decode cX7_back 23 = .ok (.aload_n 0, 1) := by decide +kernel
theorem dX7_back_24 : decode cX7_back 24 = .ok (.getfield 28, 3) := by decide +kernel
theorem dX7_back_27 : decode cX7_back 27 = .ok (.aload_n 0, 1) := by decide +kernel
theorem dX7_back_28 : decode cX7_back 28 = .ok (.getfield 39, 3) := by decide +kernel
theorem dX7_back_31 : decode cX7_back 31 = .ok (.iload_n 1, 1) := by decide +kernel
theorem dX7_back_32 : decode cX7_back 32 = .ok (.aaload, 1) := by decide +kernel
theorem dX7_back_33 : decode cX7_back 33 = .ok (.invokevirtual 262, 3) := by decide +kernel
theorem dX7_back_36 : decode cX7_back 36 = .ok (.aload_n 0, 1) := by decide +kernel
theorem dX7_back_37 : decode cX7_back 37 = .ok (.getfield 35, 3) := by decide +kernel
theorem dX7_back_40 : decode cX7_back 40 = .ok (.iconst 0, 1) := by decide +kernel
theorem dX7_back_41 : decode cX7_back 41 = .ok (.putfield 97, 3) := by decide +kernel
theorem dX7_back_44 : decode cX7_back 44 = .ok (.aload_n 0, 1) := by decide +kernel
theorem dX7_back_45 : decode cX7_back 45 = .ok (.getfield 28, 3) := by decide +kernel
theorem dX7_back_48 : decode cX7_back 48 = .ok (.getfield 133, 3) := by decide +kernel
theorem dX7_back_51 : decode cX7_back 51 = .ok (.ireturn, 1) := by decide +kernel
theorem dX7_count_0 : decode cX7_count 0 = .ok (.iload_n 1, 1) := by decide +kernel
theorem dX7_count_1 : decode cX7_count 1 = .ok (.tableswitch 75 0 4 #[35, 43, 51, 59, 67], 35) := by decide +kernel
theorem dX7_count_36 : decode cX7_count 36 = .ok (.aload_n 0, 1) := by decide +kernel
theorem dX7_count_37 : decode cX7_count 37 = .ok (.getfield 10, 3) := by decide +kernel
theorem dX7_count_40 : decode cX7_count 40 = .ok (.getfield 172, 3) := by decide +kernel
theorem dX7_count_43 : decode cX7_count 43 = .ok (.ireturn, 1) := by decide +kernel
theorem dX7_count_44 : decode cX7_count 44 = .ok (.aload_n 0, 1) := by decide +kernel
theorem dX7_count_45 : decode cX7_count 45 = .ok (.getfield 10, 3) := by decide +kernel
theorem dX7_count_48 : decode cX7_count 48 = .ok (.getfield 190, 3) := by decide +kernel
theorem dX7_count_51 : decode cX7_count 51 = .ok (.ireturn, 1) := by decide +kernel
theorem dX7_count_52 : decode cX7_count 52 = .ok (.aload_n 0, 1) := by decide +kernel
theorem dX7_count_53 : decode cX7_count 53 = .ok (.getfield 10, 3) := by decide +kernel
theorem dX7_count_56 : decode cX7_count 56 = .ok (.getfield 264, 3) := by decide +kernel
theorem dX7_count_59 : decode cX7_count 59 = .ok (.ireturn, 1) := by decide +kernel
theorem dX7_count_60 : decode cX7_count 60 = .ok (.aload_n 0, 1) := by decide +kernel
theorem dX7_count_61 : decode cX7_count 61 = .ok (.getfield 50, 3) := by decide +kernel
theorem dX7_count_64 : decode cX7_count 64 = .ok (.getfield 100, 3) := by decide +kernel
theorem dX7_count_67 : decode cX7_count 67 = .ok (.ireturn, 1) := by decide +kernel
theorem dX7_count_68 : decode cX7_count 68 = .ok (.aload_n 0, 1) := by decide +kernel
theorem dX7_count_69 : decode cX7_count 69 = .ok (.getfield 19, 3) := by decide +kernel
theorem dX7_count_72 : decode cX7_count 72 = .ok (.getfield 80, 3) := by decide +kernel
theorem dX7_count_75 : decode cX7_count 75 = .ok (.ireturn, 1) := by decide +kernel
theorem dX7_count_76 : decode cX7_count 76 = .ok (.iconst (-1), 1) := by decide +kernel
theorem dX7_count_77 : decode cX7_count 77 = .ok (.ireturn, 1) := by decide +kernel
theorem dX7_trace_0 : decode cX7_trace 0 = .ok (.aload_n 0, 1) := by decide +kernel
theorem dX7_trace_1 : decode cX7_trace 1 = .ok (.getfield 68, 3) := by decide +kernel
theorem dX7_trace_4 : decode cX7_trace 4 = .ok (.lreturn, 1) := by decide +kernel
theorem dX7_isWithin_0 : decode cX7_isWithin 0 = .ok (.iload_n 0, 1) := by decide +kernel
theorem dX7_isWithin_1 : decode cX7_isWithin 1 = .ok (.iload_n 1, 1) := by decide +kernel
theorem dX7_isWithin_2 : decode cX7_isWithin 2 = .ok (.if_icmp .lt 12, 3) := by decide +kernel
theorem dX7_isWithin_5 : decode cX7_isWithin 5 = .ok (.iload_n 0, 1) := by decide +kernel
theorem dX7_isWithin_6 : decode cX7_isWithin 6 = .ok (.iload_n 2, 1) := by decide +kernel
theorem dX7_isWithin_7 : decode cX7_isWithin 7 = .ok (.if_icmp .gt 7, 3) := by decide +kernel
theorem dX7_isWithin_10 : decode cX7_isWithin 10 = .ok (.iconst 1, 1) := by decide +kernel
theorem dX7_isWithin_11 : decode cX7_isWithin 11 = .ok (.goto 4, 3) := by decide +kernel
theorem dX7_isWithin_14 : decode cX7_isWithin 14 = .ok (.iconst 0, 1) := by decide +kernel
theorem dX7_isWithin_15 : decode cX7_isWithin 15 = .ok (.ireturn, 1) := by decide +kernel
end
section
theorem dX8_init_0 : decode cX8_init 0 = .ok (.aload_n 0, 1) := by decide +kernel
theorem dX8_init_1 : decode cX8_init 1 = .ok (.invokespecial 1, 3) := by decide +kernel
theorem dX8_init_4 : decode cX8_init 4 = .ok (.aload_n 0, 1) := by decide +kernel
theorem dX8_init_5 : decode cX8_init 5 = .ok (.sipush 200, 3) := by decide +kernel
theorem dX8_init_8 : decode cX8_init 8 = .ok (.newarray .int, 2) := by decide +kernel
theorem dX8_init_10 : decode cX8_init 10 = .ok (.putfield 7, 3) := by decide +kernel
theorem dX8_init_13 : decode cX8_init 13 = .ok (.aload_n 0, 1) := by decide +kernel
theorem dX8_init_14 : decode cX8_init 14 = .ok (.bipush 33, 2) := by decide +kernel
theorem dX8_init_16 : decode cX8_init 16 = .ok (.newarray .int, 2) := by decide +kernel
theorem dX8_init_18 : decode cX8_init 18 = .ok (.putfield 13, 3) := by decide +kernel
theorem dX8_init_21 : decode cX8_init 21 = .ok (.aload_n 0, 1) := by decide +kernel
theorem dX8_init_22 : decode cX8_init 22 = .ok (.bipush 33, 2) := by decide +kernel
theorem dX8_init_24 : decode cX8_init 24 = .ok (.newarray .int, 2) := by decide +kernel
theorem dX8_init_26 : decode cX8_init 26 = .ok (.putfield 16, 3) := by decide +kernel
theorem dX8_init_29 : decode cX8_init 29 = .ok (.aload_n 0, 1) := by decide +kernel
theorem dX8_init_30 : decode cX8_init 30 = .ok (.bipush 51, 2) := by decide +kernel
theorem dX8_init_32 : decode cX8_init 32 = .ok (.newarray .int, 2) := by decide +kernel
theorem dX8_init_34 : decode cX8_init 34 = .ok (.putfield 19, 3) := by decide +kernel
theorem dX8_init_37 : decode cX8_init 37 = .ok (.aload_n 0, 1) := by decide +kernel
theorem dX8_init_38 : decode cX8_init 38 = .ok (.sipush 510, 3) := by decide +kernel
theorem dX8_init_41 : decode cX8_init 41 = .ok (.newarray .int, 2) := by decide +kernel
theorem dX8_init_43 : decode cX8_init 43 = .ok (.putfield 22, 3) := by decide +kernel
theorem dX8_init_46 : decode cX8_init 46 = .ok (.aload_n 0, 1) := by decide +kernel
theorem dX8_init_47 : decode cX8_init 47 = .ok (.bipush 102, 2) := by decide +kernel
theorem dX8_init_49 : decode cX8_init 49 = .ok (.newarray .int, 2) := by decide +kernel
theorem dX8_init_51 : decode cX8_init 51 = .ok (.putfield 25, 3) := by decide +kernel
theorem dX8_init_54 : decode cX8_init 54 = .ok (.aload_n 0, 1) := by decide +kernel
theorem dX8_init_55 : decode cX8_init 55 = .ok (.iconst 2, 1) := by decide +kernel
theorem dX8_init_56 : decode cX8_init 56 = .ok (.newarray .boolean, 2) := by decide +kernel
theorem dX8_init_58 : decode cX8_init 58 = .ok (.putfield 28, 3) := by decide +kernel
theorem dX8_init_61 : decode cX8_init 61 = .ok (.aload_n 0, 1) := by decide +kernel
theorem dX8_init_62 : decode cX8_init 62 = .ok (.iconst 5, 1) := by decide +kernel
theorem dX8_init_63 : decode cX8_init 63 = .ok (.newarray .int, 2) := by decide +kernel
theorem dX8_init_65 : decode cX8_init 65 = .ok (.putfield 32, 3) := by decide +kernel
theorem dX8_init_68 : decode cX8_init 68 = .ok (.aload_n 0, 1) := by decide +kernel
theorem dX8_init_69 : decode cX8_init 69 = .ok (.iconst 5, 1) := by decide +kernel
theorem dX8_init_70 : decode cX8_init 70 = .ok (.newarray .int, 2) := by decide +kernel
theorem dX8_init_72 : decode cX8_init 72 = .ok (.putfield 35, 3) := by decide +kernel
theorem dX8_init_75 : decode cX8_init 75 = .ok (.aload_n 0, 1) := by decide +kernel
theorem dX8_init_76 : decode cX8_init 76 = .ok (.bipush 51, 2) := by decide +kernel
theorem dX8_init_78 : decode cX8_init 78 = .ok (.newarray .int, 2) := by decide +kernel
theorem dX8_init_80 : decode cX8_init 80 = .ok (.putfield 38, 3) := by decide +kernel
theorem dX8_init_83 : decode cX8_init 83 = .ok (.aload_n 0, 1) := by decide +kernel
theorem dX8_init_84 : decode cX8_init 84 = .ok (.sipush 128, 3) := by decide +kernel
theorem dX8_init_87 : decode cX8_init 87 = .ok (.newarray .int, 2) := by decide +kernel
theorem dX8_init_89 : decode cX8_init 89 = .ok (.putfield 41, 3) := by decide +kernel
theorem dX8_init_92 : decode cX8_init 92 = .ok (.aload_n 0, 1) := by decide +kernel
theorem dX8_init_93 : decode cX8_init 93 = .ok (.invokevirtual 44, 3) := by decide +kernel
theorem dX8_init_96 : decode cX8_init 96 = .ok (.pop, 1) := by decide +kernel
theorem dX8_init_97 : decode cX8_init 97 = .ok (.aload_n 0, 1) := by decide +kernel
theorem dX8_init_98 : decode cX8_init 98 = .ok (.invokevirtual 48, 3) := by decide +kernel
theorem dX8_init_101 : decode cX8_init 101 = .ok (.return_, 1) := by decide +kernel
theorem dX8_in_0 : decode cX8_in 0 = .ok (.iload_n 0, 1) := by decide +kernel
theorem dX8_in_1 : decode cX8_in 1 = .ok (.iload_n 1, 1) := by decide +kernel
theorem dX8_in_2 : decode cX8_in 2 = .ok (.if_icmp .lt 12, 3) := by decide +kernel
theorem dX8_in_5 : decode cX8_in 5 = .ok (.iload_n 0, 1) := by decide +kernel
theorem dX8_in_6 : decode cX8_in 6 = .ok (.iload_n 2, 1) := by decide +kernel
theorem dX8_in_7 : decode cX8_in 7 = .ok (.if_icmp .gt 7, 3) := by decide +kernel
theorem dX8_in_10 : decode cX8_in 10 = .ok (.iconst 1, 1) := by decide +kernel
theorem dX8_in_11 : decode cX8_in 11 = .ok (.goto 4, 3) := by decide +kernel
theorem dX8_in_14 : decode cX8_in 14 = .ok (.iconst 0, 1) := by decide +kernel
theorem dX8_in_15 : decode cX8_in 15 = .ok (.ireturn, 1) := by decide +kernel
theorem dX8_isPan_0 : decode cX8_isPan 0 = .ok (.iload_n 1, 1) := by decide +kernel
theorem dX8_isPan_1 : decode cX8_isPan 1 = .ok (.iconst 0, 1) := by decide +kernel
theorem dX8_isPan_2 : decode cX8_isPan 2 = .ok (.aload_n 0, 1) := by decide +kernel
theorem dX8_isPan_3 : decode cX8_isPan 3 = .ok (.getfield 13, 3) := by decide +kernel
theorem dX8_isPan_6 : decode cX8_isPan 6 = .ok (.iconst 0, 1) := by decide +kernel
theorem dX8_isPan_7 : decode cX8_isPan 7 = .ok (.iaload, 1) := by decide +kernel
theorem dX8_isPan_8 : decode cX8_isPan 8 = .ok (.iconst 1, 1) := by decide +kernel
theorem dX8_isPan_9 : decode cX8_isPan 9 = .ok (.isub, 1) := by decide +kernel
theorem dX8_isPan_10 : decode cX8_isPan 10 = .ok (.invokestatic 51, 3) := by decide +kernel
theorem dX8_isPan_13 : decode cX8_isPan 13 = .ok (.ireturn, 1) := by decide +kernel
theorem dX8_ones_0 : decode cX8_ones 0 = .ok (.iconst 0, 1) := by decide +kernel
theorem dX8_ones_1 : decode cX8_ones 1 = .ok (.istore_n 1, 1) := by decide +kernel
theorem dX8_ones_2 : decode cX8_ones 2 = .ok (.iconst 0, 1) := by decide +kernel
theorem dX8_ones_3 : decode cX8_ones 3 = .ok (.istore_n 2, 1) := by decide +kernel
theorem dX8_ones_4 : decode cX8_ones 4 = .ok (.iload_n 2, 1) := by decide +kernel
theorem dX8_ones_5 : decode cX8_ones 5 = .ok (.bipush 7, 2) := by decide +kernel
theorem dX8_ones_7 : decode cX8_ones 7 = .ok (.if_icmp .ge 17, 3) := by decide +kernel
theorem dX8_ones_10 : decode cX8_ones 10 = .ok (.iload_n 1, 1) := by decide +kernel
theorem dX8_ones_11 : decode cX8_ones 11 = .ok (.iload_n 0, 1) := by decide +kernel
theorem dX8_ones_12 : decode cX8_ones 12 = .ok (.iload_n 2, 1) := by decide +kernel
theorem dX8_ones_13 : decode cX8_ones 13 = .ok (.ishr, 1) := by decide +kernel
theorem dX8_ones_14 : decode cX8_ones 14 = .ok (.iconst 1, 1) := by decide +kernel
theorem dX8_ones_15 : decode cX8_ones 15 = .ok (.iand, 1) := by decide +kernel
theorem dX8_ones_16 : decode cX8_ones 16 = .ok (.iadd, 1) := by decide +kernel
theorem dX8_ones_17 : decode cX8_ones 17 = .ok (.istore_n 1, 1) := by decide +kernel
theorem dX8_ones_18 : decode cX8_ones 18 = .ok (.iinc 2 1, 3) := by decide +kernel
theorem dX8_ones_21 : decode cX8_ones 21 = .ok (.goto (-17), 3) := by decide +kernel
theorem dX8_ones_24 : decode cX8_ones 24 = .ok (.iload_n 1, 1) := by decide +kernel
theorem dX8_ones_25 : decode cX8_ones 25 = .ok (.ireturn, 1) := by decide +kernel
theorem dX8_type_0 : decode cX8_type 0 = .ok (.iload_n 1, 1) := by decide +kernel
theorem dX8_type_1 : decode cX8_type 1 = .ok (.iconst 0, 1) := by decide +kernel
theorem dX8_type_2 : decode cX8_type 2 = .ok (.sipush 255, 3) := by decide +kernel
theorem dX8_type_5 : decode cX8_type 5 = .ok (.invokestatic 51, 3) := by decide +kernel
theorem dX8_type_8 : decode cX8_type 8 = .ok (.ifCond .ne 5, 3) := by decide +kernel
theorem dX8_type_11 : decode cX8_type 11 = .ok (.iconst (-1), 1) := by decide +kernel
theorem dX8_type_12 : decode cX8_type 12 = .ok (.ireturn, 1) := by decide +kernel
theorem dX8_type_13 : decode cX8_type 13 = .ok (.aload_n 0, 1) := by decide +kernel
theorem dX8_type_14 : decode cX8_type 14 = .ok (.getfield 55, 3) := by decide +kernel
theorem dX8_type_17 : decode cX8_type 17 = .ok (.sipush 200, 3) := by decide +kernel
theorem dX8_type_20 : decode cX8_type 20 = .ok (.if_icmp .ne 6, 3) := by decide +kernel
theorem dX8_type_23 : decode cX8_type 23 = .ok (.bipush (-3), 2) := by decide +kernel
theorem dX8_type_25 : decode cX8_type 25 = .ok (.ireturn, 1) := by decide +kernel
theorem dX8_type_26 : decode cX8_type 26 = .ok (.aload_n 0, 1) := by decide +kernel
theorem dX8_type_27 : decode cX8_type 27 = .ok (.getfield 7, 3) := by decide +kernel
theorem dX8_type_30 : decode cX8_type 30 = .ok (.aload_n 0, 1) := by decide +kernel
theorem dX8_type_31 : decode cX8_type 31 = .ok (.getfield 55, 3) := by decide +kernel
theorem dX8_type_34 : decode cX8_type 34 = .ok (.iload_n 1, 1) := by decide +kernel
theorem dX8_type_35 : decode cX8_type 35 = .ok (.iastore, 1) := by decide +kernel
theorem dX8_type_36 : decode cX8_type 36 = .ok (.aload_n 0, 1) := by decide +kernel
theorem dX8_type_37 : decode cX8_type 37 = .ok (.dup, 1) := by decide +kernel
theorem dX8_type_38 : decode cX8_type 38 = .ok (.getfield 55, 3) := by decide +kernel
theorem dX8_type_41 : decode cX8_type 41 = .ok (.iconst 1, 1) := by decide +kernel
theorem dX8_type_42 : decode cX8_type 42 = .ok (.iadd, 1) := by decide +kernel
theorem dX8_type_43 : decode cX8_type 43 = .ok (.putfield 55, 3) := by decide +kernel
theorem dX8_type_46 : decode cX8_type 46 = .ok (.aload_n 0, 1) := by decide +kernel
theorem dX8_type_47 : decode cX8_type 47 = .ok (.getfield 55, 3) := by decide +kernel
theorem dX8_type_50 : decode cX8_type 50 = .ok (.ireturn, 1) := by decide +kernel
theorem dX8_clear_0 : decode cX8_clear 0 = .ok (.aload_n 0, 1) := by decide +kernel
theorem dX8_clear_1 : decode cX8_clear 1 = .ok (.getfield 55, 3) := by decide +kernel
theorem dX8_clear_4 : decode cX8_clear 4 = .ok (.istore_n 1, 1) := by decide +kernel
theorem dX8_clear_5 : decode cX8_clear 5 = .ok (.aload_n 0, 1) := by decide +kernel
theorem dX8_clear_6 : decode cX8_clear 6 = .ok (.iconst 0, 1) := by decide +kernel
theorem dX8_clear_7 : decode cX8_clear 7 = .ok (.putfield 55, 3) := by decide +kernel
theorem dX8_clear_10 : decode cX8_clear 10 = .ok (.iload_n 1, 1) := by decide +kernel
theorem dX8_clear_11 : decode cX8_clear 11 = .ok (.ireturn, 1) := by decide +kernel
theorem dX8_letterAt_0 : decode cX8_letterAt 0 = .ok (.iload_n 1, 1) := by decide +kernel
theorem dX8_letterAt_1 : decode cX8_letterAt 1 = .ok (.aload_n 0, 1) := by decide +kernel
theorem dX8_letterAt_2 : decode cX8_letterAt 2 = .ok (.getfield 55, 3) := by decide +kernel
theorem dX8_letterAt_5 : decode cX8_letterAt 5 = .ok (.if_icmp .ge 12, 3) := by decide +kernel
theorem dX8_letterAt_8 : decode cX8_letterAt 8 = .ok (.aload_n 0, 1) := by decide +kernel
theorem dX8_letterAt_9 : decode cX8_letterAt 9 = .ok (.getfield 7, 3) := by decide +kernel
theorem dX8_letterAt_12 : decode cX8_letterAt 12 = .ok (.iload_n 1, 1) := by decide +kernel
theorem dX8_letterAt_13 : decode cX8_letterAt 13 = .ok (.iaload, 1) := by decide +kernel
theorem dX8_letterAt_14 : decode cX8_letterAt 14 = .ok (.goto 4, 3) := by decide +kernel
theorem dX8_letterAt_17 : decode cX8_letterAt 17 = .ok (.iconst (-1), 1) := by decide +kernel
theorem dX8_letterAt_18 : decode cX8_letterAt 18 = .ok (.ireturn, 1) := by decide +kernel
theorem dX8_isDigit_0 : decode cX8_isDigit 0 = .ok (.iload_n 0, 1) := by decide +kernel
theorem dX8_isDigit_1 : decode cX8_isDigit 1 = .ok (.bipush 48, 2) := by decide +kernel
theorem dX8_isDigit_3 : decode cX8_isDigit 3 = .ok (.bipush 57, 2) := by decide +kernel
theorem dX8_isDigit_5 : decode cX8_isDigit 5 = .ok (.invokestatic 51, 3) := by decide +kernel
theorem dX8_isDigit_8 : decode cX8_isDigit 8 = .ok (.ireturn, 1) := by decide +kernel
theorem dX8_token_0 : decode cX8_token 0 = .ok (.aload_n 0, 1) := by decide +kernel
theorem dX8_token_1 : decode cX8_token 1 = .ok (.aload_n 0, 1) := by decide +kernel
theorem dX8_token_2 : decode cX8_token 2 = .ok (.getfield 59, 3) := by decide +kernel
theorem dX8_token_5 : decode cX8_token 5 = .ok (.invokevirtual 62, 3) := by decide +kernel
theorem dX8_token_8 : decode cX8_token 8 = .ok (.bipush 32, 2) := by decide +kernel
theorem dX8_token_10 : decode cX8_token 10 = .ok (.if_icmp .ne 16, 3) := by decide +kernel
theorem dX8_token_13 : decode cX8_token 13 = .ok (.aload_n 0, 1) := by decide +kernel
theorem dX8_token_14 : decode cX8_token 14 = .ok (.dup, 1) := by decide +kernel
theorem dX8_token_15 : decode cX8_token 15 = .ok (.getfield 59, 3) := by decide +kernel
theorem dX8_token_18 : decode cX8_token 18 = .ok (.iconst 1, 1) := by decide +kernel
theorem dX8_token_19 : decode cX8_token 19 = .ok (.iadd, 1) := by decide +kernel
theorem dX8_token_20 : decode cX8_token 20 = .ok (.putfield 59, 3) := by decide +kernel
theorem dX8_token_23 : decode cX8_token 23 = .ok (.goto (-23), 3) := by decide +kernel
theorem dX8_token_26 : decode cX8_token 26 = .ok (.aload_n 0, 1) := by decide +kernel
theorem dX8_token_27 : decode cX8_token 27 = .ok (.aload_n 0, 1) := by decide +kernel
theorem dX8_token_28 : decode cX8_token 28 = .ok (.getfield 59, 3) := by decide +kernel
theorem dX8_token_31 : decode cX8_token 31 = .ok (.putfield 66, 3) := by decide +kernel
theorem dX8_token_34 : decode cX8_token 34 = .ok (.aload_n 0, 1) := by decide +kernel
theorem dX8_token_35 : decode cX8_token 35 = .ok (.aload_n 0, 1) := by decide +kernel
theorem dX8_token_36 : decode cX8_token 36 = .ok (.getfield 59, 3) := by decide +kernel
theorem dX8_token_39 : decode cX8_token 39 = .ok (.invokevirtual 62, 3) := by decide +kernel
theorem dX8_token_42 : decode cX8_token 42 = .ok (.istore_n 1, 1) := by decide +kernel
theorem dX8_token_43 : decode cX8_token 43 = .ok (.aload_n 0, 1) := by decide +kernel
theorem dX8_token_44 : decode cX8_token 44 = .ok (.iload_n 1, 1) := by decide +kernel
theorem dX8_token_45 : decode cX8_token 45 = .ok (.ifCond .ge 7, 3) := by decide +kernel
theorem dX8_token_48 : decode cX8_token 48 = .ok (.iconst 0, 1) := by decide +kernel
theorem dX8_token_49 : decode cX8_token 49 = .ok (.goto 47, 3) := by decide +kernel
theorem dX8_token_52 : decode cX8_token 52 = .ok (.iload_n 1, 1) := by decide +kernel
theorem dX8_token_53 : decode cX8_token 53 = .ok (.bipush 112, 2) := by decide +kernel
theorem dX8_token_55 : decode cX8_token 55 = .ok (.if_icmp .eq 15, 3) := by decide +kernel
theorem dX8_token_58 : decode cX8_token 58 = .ok (.iload_n 1, 1) := by decide +kernel
theorem dX8_token_59 : decode cX8_token 59 = .ok (.bipush 108, 2) := by decide +kernel
theorem dX8_token_61 : decode cX8_token 61 = .ok (.if_icmp .eq 9, 3) := by decide +kernel
theorem dX8_token_64 : decode cX8_token 64 = .ok (.iload_n 1, 1) := by decide +kernel
theorem dX8_token_65 : decode cX8_token 65 = .ok (.bipush 115, 2) := by decide +kernel
theorem dX8_token_67 : decode cX8_token 67 = .ok (.if_icmp .ne 7, 3) := by decide +kernel
theorem dX8_token_70 : decode cX8_token 70 = .ok (.iconst 1, 1) := by decide +kernel
theorem dX8_token_71 : decode cX8_token 71 = .ok (.goto 25, 3) := by decide +kernel
theorem dX8_token_74 : decode cX8_token 74 = .ok (.iload_n 1, 1) := by decide +kernel
theorem dX8_token_75 : decode cX8_token 75 = .ok (.invokestatic 69, 3) := by decide +kernel
theorem dX8_token_78 : decode cX8_token 78 = .ok (.ifCond .eq 7, 3) := by decide +kernel
theorem dX8_token_81 : decode cX8_token 81 = .ok (.iconst 2, 1) := by decide +kernel
theorem dX8_token_82 : decode cX8_token 82 = .ok (.goto 14, 3) := by decide +kernel
theorem dX8_token_85 : decode cX8_token 85 = .ok (.iload_n 1, 1) := by decide +kernel
theorem dX8_token_86 : decode cX8_token 86 = .ok (.bipush 59, 2) := by decide +kernel
theorem dX8_token_88 : decode cX8_token 88 = .ok (.if_icmp .ne 7, 3) := by decide +kernel
theorem dX8_token_91 : decode cX8_token 91 = .ok (.iconst 3, 1) := by decide +kernel
theorem dX8_token_92 : decode cX8_token 92 = .ok (.goto 4, 3) := by decide +kernel
theorem dX8_token_95 : decode cX8_token 95 = .ok (.iconst 4, 1) := by decide +kernel
theorem dX8_token_96 : decode cX8_token 96 = .ok (.putfield 73, 3) := by decide +kernel
theorem dX8_token_99 : decode cX8_token 99 = .ok (.aload_n 0, 1) := by decide +kernel
theorem dX8_token_100 : decode cX8_token 100 = .ok (.iload_n 1, 1) := by decide +kernel
theorem dX8_token_101 : decode cX8_token 101 = .ok (.putfield 76, 3) := by decide +kernel
theorem dX8_token_104 : decode cX8_token 104 = .ok (.aload_n 0, 1) := by decide +kernel
theorem dX8_token_105 : decode cX8_token 105 = .ok (.dup, 1) := by decide +kernel
theorem dX8_token_106 : decode cX8_token 106 = .ok (.getfield 59, 3) := by decide +kernel
theorem dX8_token_109 : decode cX8_token 109 = .ok (.aload_n 0, 1) := by decide +kernel
theorem dX8_token_110 : decode cX8_token 110 = .ok (.getfield 73, 3) := by decide +kernel
theorem dX8_token_113 : decode cX8_token 113 = .ok (.ifCond .ne 7, 3) := by decide +kernel
theorem dX8_token_116 : decode cX8_token 116 = .ok (.iconst 0, 1) := by decide +kernel
theorem dX8_token_117 : decode cX8_token 117 = .ok (.goto 4, 3) := by decide +kernel
theorem dX8_token_120 : decode cX8_token 120 = .ok (.iconst 1, 1) := by decide +kernel
theorem dX8_token_121 : decode cX8_token 121 = .ok (.iadd, 1) := by decide +kernel
theorem dX8_token_122 : decode cX8_token 122 = .ok (.putfield 59, 3) := by decide +kernel
theorem dX8_token_125 : decode cX8_token 125 = .ok (.aload_n 0, 1) := by decide +kernel
theorem dX8_token_126 : decode cX8_token 126 = .ok (.getfield 73, 3) := by decide +kernel
theorem dX8_token_129 : decode cX8_token 129 = .ok (.iconst 2, 1) := by decide +kernel
theorem dX8_token_130 : decode cX8_token 130 = .ok (.if_icmp .ne 83, 3) := by decide +kernel
theorem dX8_token_133 : decode cX8_token 133 = .ok (.aload_n 0, 1) := by decide +kernel
theorem dX8_token_134 : decode cX8_token 134 = .ok (.iload_n 1, 1) := by decide +kernel
theorem dX8_token_135 : decode cX8_token 135 = .ok (.bipush 48, 2) := by decide +kernel
theorem dX8_token_137 : decode cX8_token 137 = .ok (.isub, 1) := by decide +kernel
theorem dX8_token_138 : decode cX8_token 138 = .ok (.putfield 76, 3) := by decide +kernel
theorem dX8_token_141 : decode cX8_token 141 = .ok (.aload_n 0, 1) := by decide +kernel
theorem dX8_token_142 : decode cX8_token 142 = .ok (.aload_n 0, 1) := by decide +kernel
theorem dX8_token_143 : decode cX8_token 143 = .ok (.getfield 59, 3) := by decide +kernel
theorem dX8_token_146 : decode cX8_token 146 = .ok (.invokevirtual 62, 3) := by decide +kernel
theorem dX8_token_149 : decode cX8_token 149 = .ok (.invokestatic 69, 3) := by decide +kernel
theorem dX8_token_152 : decode cX8_token 152 = .ok (.ifCond .eq 61, 3) := by decide +kernel
theorem dX8_token_155 : decode cX8_token 155 = .ok (.aload_n 0, 1) := by decide +kernel
theorem dX8_token_156 : decode cX8_token 156 = .ok (.iload_n 1, 1) := by decide +kernel
theorem dX8_token_157 : decode cX8_token 157 = .ok (.bipush 48, 2) := by decide +kernel
theorem dX8_token_159 : decode cX8_token 159 = .ok (.if_icmp .eq 12, 3) := by decide +kernel
theorem dX8_token_162 : decode cX8_token 162 = .ok (.aload_n 0, 1) := by decide +kernel
theorem dX8_token_163 : decode cX8_token 163 = .ok (.getfield 76, 3) := by decide +kernel
theorem dX8_token_166 : decode cX8_token 166 = .ok (.bipush 99, 2) := by decide +kernel
theorem dX8_token_168 : decode cX8_token 168 = .ok (.if_icmp .le 9, 3) := by decide +kernel
theorem dX8_token_171 : decode cX8_token 171 = .ok (.sipush 1000, 3) := by decide +kernel
theorem dX8_token_174 : decode cX8_token 174 = .ok (.goto 23, 3) := by decide +kernel
theorem dX8_token_177 : decode cX8_token 177 = .ok (.bipush 10, 2) := by decide +kernel
theorem dX8_token_179 : decode cX8_token 179 = .ok (.aload_n 0, 1) := by decide +kernel
theorem dX8_token_180 : decode cX8_token 180 = .ok (.getfield 76, 3) := by decide +kernel
theorem dX8_token_183 : decode cX8_token 183 = .ok (.imul, 1) := by decide +kernel
theorem dX8_token_184 : decode cX8_token 184 = .ok (.aload_n 0, 1) := by decide +kernel
theorem dX8_token_185 : decode cX8_token 185 = .ok (.getfield 7, 3) := by decide +kernel
theorem dX8_token_188 : decode cX8_token 188 = .ok (.aload_n 0, 1) := by decide +kernel
theorem dX8_token_189 : decode cX8_token 189 = .ok (.getfield 59, 3) := by decide +kernel
theorem dX8_token_192 : decode cX8_token 192 = .ok (.iaload, 1) := by decide +kernel
theorem dX8_token_193 : decode cX8_token 193 = .ok (.iadd, 1) := by decide +kernel
theorem dX8_token_194 : decode cX8_token 194 = .ok (.bipush 48, 2) := by decide +kernel
theorem dX8_token_196 : decode cX8_token 196 = .ok (.isub, 1) := by decide +kernel
theorem dX8_token_197 : decode cX8_token 197 = .ok (.putfield 76, 3) := by decide +kernel
theorem dX8_token_200 : decode cX8_token 200 = .ok (.aload_n 0, 1) := by decide +kernel
theorem dX8_token_201 : decode cX8_token 201 = .ok (.dup, 1) := by decide +kernel
theorem dX8_token_202 : decode cX8_token 202 = .ok (.getfield 59, 3) := by decide +kernel
theorem dX8_token_205 : decode cX8_token 205 = .ok (.iconst 1, 1) := by decide +kernel
theorem dX8_token_206 : decode cX8_token 206 = .ok (.iadd, 1) := by decide +kernel
theorem dX8_token_207 : decode cX8_token 207 = .ok (.putfield 59, 3) := by decide +kernel
theorem dX8_token_210 : decode cX8_token 210 = .ok (.goto (-69), 3) := by decide +kernel
theorem dX8_token_213 : decode cX8_token 213 = .ok (.return_, 1) := by decide +kernel
theorem dX8_number_0 : decode cX8_number 0 = .ok (.aload_n 0, 1) := by decide +kernel
theorem dX8_number_1 : decode cX8_number 1 = .ok (.invokevirtual 79, 3) := by decide +kernel
theorem dX8_number_4 : decode cX8_number 4 = .ok (.aload_n 0, 1) := by decide +kernel
theorem dX8_number_5 : decode cX8_number 5 = .ok (.getfield 16, 3) := by decide +kernel
theorem dX8_number_8 : decode cX8_number 8 = .ok (.iload_n 1, 1) := by decide +kernel
theorem dX8_number_9 : decode cX8_number 9 = .ok (.aload_n 0, 1) := by decide +kernel
theorem dX8_number_10 : decode cX8_number 10 = .ok (.getfield 76, 3) := by decide +kernel
theorem dX8_number_13 : decode cX8_number 13 = .ok (.iastore, 1) := by decide +kernel
theorem dX8_number_14 : decode cX8_number 14 = .ok (.aload_n 0, 1) := by decide +kernel
theorem dX8_number_15 : decode cX8_number 15 = .ok (.getfield 73, 3) := by decide +kernel
theorem dX8_number_18 : decode cX8_number 18 = .ok (.iconst 2, 1) := by decide +kernel
theorem dX8_number_19 : decode cX8_number 19 = .ok (.if_icmp .ne 19, 3) := by decide +kernel
theorem dX8_number_22 : decode cX8_number 22 = .ok (.aload_n 0, 1) := by decide +kernel
theorem dX8_number_23 : decode cX8_number 23 = .ok (.getfield 76, 3) := by decide +kernel
theorem dX8_number_26 : decode cX8_number 26 = .ok (.iload_n 2, 1) := by decide +kernel
theorem dX8_number_27 : decode cX8_number 27 = .ok (.iload_n 3, 1) := by decide +kernel
theorem dX8_number_28 : decode cX8_number 28 = .ok (.invokestatic 51, 3) := by decide +kernel
theorem dX8_number_31 : decode cX8_number 31 = .ok (.ifCond .eq 7, 3) := by decide +kernel
theorem dX8_number_34 : decode cX8_number 34 = .ok (.iconst 1, 1) := by decide +kernel
theorem dX8_number_35 : decode cX8_number 35 = .ok (.goto 4, 3) := by decide +kernel
theorem dX8_number_38 : decode cX8_number 38 = .ok (.iconst 0, 1) := by decide +kernel
theorem dX8_number_39 : decode cX8_number 39 = .ok (.ireturn, 1) := by decide +kernel
theorem dX8_once_0 : decode cX8_once 0 = .ok (.aload_n 0, 1) := by decide +kernel
theorem dX8_once_1 : decode cX8_once 1 = .ok (.getfield 16, 3) := by decide +kernel
theorem dX8_once_4 : decode cX8_once 4 = .ok (.iconst 4, 1) := by decide +kernel
theorem dX8_once_5 : decode cX8_once 5 = .ok (.iaload, 1) := by decide +kernel
theorem dX8_once_6 : decode cX8_once 6 = .ok (.iload_n 1, 1) := by decide +kernel
theorem dX8_once_7 : decode cX8_once 7 = .ok (.iand, 1) := by decide +kernel
theorem dX8_once_8 : decode cX8_once 8 = .ok (.ifCond .eq 5, 3) := by decide +kernel
theorem dX8_once_11 : decode cX8_once 11 = .ok (.iconst 0, 1) := by decide +kernel
theorem dX8_once_12 : decode cX8_once 12 = .ok (.ireturn, 1) := by decide +kernel
theorem dX8_once_13 : decode cX8_once 13 = .ok (.aload_n 0, 1) := by decide +kernel
theorem dX8_once_14 : decode cX8_once 14 = .ok (.getfield 16, 3) := by decide +kernel
theorem dX8_once_17 : decode cX8_once 17 = .ok (.iconst 4, 1) := by decide +kernel
theorem dX8_once_18 : decode cX8_once 18 = .ok (.dup2, 1) := by decide +kernel
theorem dX8_once_19 : decode cX8_once 19 = .ok (.iaload, 1) := by decide +kernel
theorem dX8_once_20 : decode cX8_once 20 = .ok (.iload_n 1, 1) := by decide +kernel
theorem dX8_once_21 : decode cX8_once 21 = .ok (.ior, 1) := by decide +kernel
theorem dX8_once_22 : decode cX8_once 22 = .ok (.iastore, 1) := by decide +kernel
theorem dX8_once_23 : decode cX8_once 23 = .ok (.aload_n 0, 1) := by decide +kernel
theorem dX8_once_24 : decode cX8_once 24 = .ok (.iload_n 2, 1) := by decide +kernel
theorem dX8_once_25 : decode cX8_once 25 = .ok (.iload_n 3, 1) := by decide +kernel
theorem dX8_once_26 : decode cX8_once 26 = .ok (.iload 4, 2) := by decide +kernel
theorem dX8_once_28 : decode cX8_once 28 = .ok (.invokevirtual 82, 3) := by decide +kernel
theorem dX8_once_31 : decode cX8_once 31 = .ok (.ireturn, 1) := by decide +kernel
theorem dX8_readsItem_0 : decode cX8_readsItem 0 = .ok (.aload_n 0, 1) := by decide +kernel
theorem dX8_readsItem_1 : decode cX8_readsItem 1 = .ok (.getfield 73, 3) := by decide +kernel
theorem dX8_readsItem_4 : decode cX8_readsItem 4 = .ok (.iconst 1, 1) := by decide +kernel
theorem dX8_readsItem_5 : decode cX8_readsItem 5 = .ok (.if_icmp .ne 10, 3) := by decide +kernel
theorem dX8_readsItem_8 : decode cX8_readsItem 8 = .ok (.aload_n 0, 1) := by decide +kernel
theorem dX8_readsItem_9 : decode cX8_readsItem 9 = .ok (.getfield 76, 3) := by decide +kernel
theorem dX8_readsItem_12 : decode cX8_readsItem 12 = .ok (.goto 4, 3) := by decide +kernel
theorem dX8_readsItem_15 : decode cX8_readsItem 15 = .ok (.iconst 0, 1) := by decide +kernel
theorem dX8_readsItem_16 : decode cX8_readsItem 16 = .ok (.istore_n 1, 1) := by decide +kernel
theorem dX8_readsItem_17 : decode cX8_readsItem 17 = .ok (.iload_n 1, 1) := by decide +kernel
theorem dX8_readsItem_18 : decode cX8_readsItem 18 = .ok (.bipush 112, 2) := by decide +kernel
theorem dX8_readsItem_20 : decode cX8_readsItem 20 = .ok (.if_icmp .ne 84, 3) := by decide +kernel
theorem dX8_readsItem_23 : decode cX8_readsItem 23 = .ok (.aload_n 0, 1) := by decide +kernel
theorem dX8_readsItem_24 : decode cX8_readsItem 24 = .ok (.getfield 16, 3) := by decide +kernel
theorem dX8_readsItem_27 : decode cX8_readsItem 27 = .ok (.iconst 0, 1) := by decide +kernel
theorem dX8_readsItem_28 : decode cX8_readsItem 28 = .ok (.iaload, 1) := by decide +kernel
theorem dX8_readsItem_29 : decode cX8_readsItem 29 = .ok (.istore_n 2, 1) := by decide +kernel
theorem dX8_readsItem_30 : decode cX8_readsItem 30 = .ok (.iload_n 2, 1) := by decide +kernel
theorem dX8_readsItem_31 : decode cX8_readsItem 31 = .ok (.bipush 7, 2) := by decide +kernel
theorem dX8_readsItem_33 : decode cX8_readsItem 33 = .ok (.if_icmp .eq 57, 3) := by decide +kernel
theorem dX8_readsItem_36 : decode cX8_readsItem 36 = .ok (.aload_n 0, 1) := by decide +kernel
theorem dX8_readsItem_37 : decode cX8_readsItem 37 = .ok (.iconst 5, 1) := by decide +kernel
theorem dX8_readsItem_38 : decode cX8_readsItem 38 = .ok (.iload_n 2, 1) := by decide +kernel
theorem dX8_readsItem_39 : decode cX8_readsItem 39 = .ok (.iadd, 1) := by decide +kernel
theorem dX8_readsItem_40 : decode cX8_readsItem 40 = .ok (.iconst 0, 1) := by decide +kernel
theorem dX8_readsItem_41 : decode cX8_readsItem 41 = .ok (.bipush 99, 2) := by decide +kernel
theorem dX8_readsItem_43 : decode cX8_readsItem 43 = .ok (.invokevirtual 82, 3) := by decide +kernel
theorem dX8_readsItem_46 : decode cX8_readsItem 46 = .ok (.ifCond .eq 44, 3) := by decide +kernel
theorem dX8_readsItem_49 : decode cX8_readsItem 49 = .ok (.aload_n 0, 1) := by decide +kernel
theorem dX8_readsItem_50 : decode cX8_readsItem 50 = .ok (.bipush 12, 2) := by decide +kernel
theorem dX8_readsItem_52 : decode cX8_readsItem 52 = .ok (.iload_n 2, 1) := by decide +kernel
theorem dX8_readsItem_53 : decode cX8_readsItem 53 = .ok (.iadd, 1) := by decide +kernel
theorem dX8_readsItem_54 : decode cX8_readsItem 54 = .ok (.iconst 0, 1) := by decide +kernel
theorem dX8_readsItem_55 : decode cX8_readsItem 55 = .ok (.bipush 60, 2) := by decide +kernel
theorem dX8_readsItem_57 : decode cX8_readsItem 57 = .ok (.invokevirtual 82, 3) := by decide +kernel
theorem dX8_readsItem_60 : decode cX8_readsItem 60 = .ok (.ifCond .eq 30, 3) := by decide +kernel
theorem dX8_readsItem_63 : decode cX8_readsItem 63 = .ok (.aload_n 0, 1) := by decide +kernel
theorem dX8_readsItem_64 : decode cX8_readsItem 64 = .ok (.bipush 19, 2) := by decide +kernel
theorem dX8_readsItem_66 : decode cX8_readsItem 66 = .ok (.iload_n 2, 1) := by decide +kernel
theorem dX8_readsItem_67 : decode cX8_readsItem 67 = .ok (.iadd, 1) := by decide +kernel
theorem dX8_readsItem_68 : decode cX8_readsItem 68 = .ok (.iconst 0, 1) := by decide +kernel
theorem dX8_readsItem_69 : decode cX8_readsItem 69 = .ok (.bipush 9, 2) := by decide +kernel
theorem dX8_readsItem_71 : decode cX8_readsItem 71 = .ok (.invokevirtual 82, 3) := by decide +kernel
theorem dX8_readsItem_74 : decode cX8_readsItem 74 = .ok (.ifCond .eq 16, 3) := by decide +kernel
theorem dX8_readsItem_77 : decode cX8_readsItem 77 = .ok (.aload_n 0, 1) := by decide +kernel
theorem dX8_readsItem_78 : decode cX8_readsItem 78 = .ok (.bipush 26, 2) := by decide +kernel
theorem dX8_readsItem_80 : decode cX8_readsItem 80 = .ok (.iload_n 2, 1) := by decide +kernel
theorem dX8_readsItem_81 : decode cX8_readsItem 81 = .ok (.iadd, 1) := by decide +kernel
theorem dX8_readsItem_82 : decode cX8_readsItem 82 = .ok (.iconst 0, 1) := by decide +kernel
theorem dX8_readsItem_83 : decode cX8_readsItem 83 = .ok (.iconst 2, 1) := by decide +kernel
theorem dX8_readsItem_84 : decode cX8_readsItem 84 = .ok (.invokevirtual 82, 3) := by decide +kernel
theorem dX8_readsItem_87 : decode cX8_readsItem 87 = .ok (.ifCond .ne 5, 3) := by decide +kernel
theorem dX8_readsItem_90 : decode cX8_readsItem 90 = .ok (.iconst 0, 1) := by decide +kernel
theorem dX8_readsItem_91 : decode cX8_readsItem 91 = .ok (.ireturn, 1) := by decide +kernel
theorem dX8_readsItem_92 : decode cX8_readsItem 92 = .ok (.aload_n 0, 1) := by decide +kernel
theorem dX8_readsItem_93 : decode cX8_readsItem 93 = .ok (.getfield 16, 3) := by decide +kernel
theorem dX8_readsItem_96 : decode cX8_readsItem 96 = .ok (.iconst 0, 1) := by decide +kernel
theorem dX8_readsItem_97 : decode cX8_readsItem 97 = .ok (.dup2, 1) := by decide +kernel
theorem dX8_readsItem_98 : decode cX8_readsItem 98 = .ok (.iaload, 1) := by decide +kernel
theorem dX8_readsItem_99 : decode cX8_readsItem 99 = .ok (.iconst 1, 1) := by decide +kernel
theorem dX8_readsItem_100 : decode cX8_readsItem 100 = .ok (.iadd, 1) := by decide +kernel
theorem dX8_readsItem_101 : decode cX8_readsItem 101 = .ok (.iastore, 1) := by decide +kernel
theorem dX8_readsItem_102 : decode cX8_readsItem 102 = .ok (.iconst 1, 1) := by decide +kernel
theorem dX8_readsItem_103 : decode cX8_readsItem 103 = .ok (.ireturn, 1) := by decide +kernel
theorem dX8_readsItem_104 : decode cX8_readsItem 104 = .ok (.iload_n 1, 1) := by decide +kernel
theorem dX8_readsItem_105 : decode cX8_readsItem 105 = .ok (.bipush 108, 2) := by decide +kernel
theorem dX8_readsItem_107 : decode cX8_readsItem 107 = .ok (.if_icmp .ne 15, 3) := by decide +kernel
theorem dX8_readsItem_110 : decode cX8_readsItem 110 = .ok (.aload_n 0, 1) := by decide +kernel
theorem dX8_readsItem_111 : decode cX8_readsItem 111 = .ok (.iconst 1, 1) := by decide +kernel
theorem dX8_readsItem_112 : decode cX8_readsItem 112 = .ok (.iconst 1, 1) := by decide +kernel
theorem dX8_readsItem_113 : decode cX8_readsItem 113 = .ok (.iconst 1, 1) := by decide +kernel
theorem dX8_readsItem_114 : decode cX8_readsItem 114 = .ok (.bipush 60, 2) := by decide +kernel
theorem dX8_readsItem_116 : decode cX8_readsItem 116 = .ok (.invokevirtual 85, 3) := by decide +kernel
theorem dX8_readsItem_119 : decode cX8_readsItem 119 = .ok (.goto 27, 3) := by decide +kernel
theorem dX8_readsItem_122 : decode cX8_readsItem 122 = .ok (.iload_n 1, 1) := by decide +kernel
theorem dX8_readsItem_123 : decode cX8_readsItem 123 = .ok (.bipush 115, 2) := by decide +kernel
theorem dX8_readsItem_125 : decode cX8_readsItem 125 = .ok (.if_icmp .ne 20, 3) := by decide +kernel
theorem dX8_readsItem_128 : decode cX8_readsItem 128 = .ok (.aload_n 0, 1) := by decide +kernel
theorem dX8_readsItem_129 : decode cX8_readsItem 129 = .ok (.iconst 2, 1) := by decide +kernel
theorem dX8_readsItem_130 : decode cX8_readsItem 130 = .ok (.iconst 2, 1) := by decide +kernel
theorem dX8_readsItem_131 : decode cX8_readsItem 131 = .ok (.bipush 10, 2) := by decide +kernel
theorem dX8_readsItem_133 : decode cX8_readsItem 133 = .ok (.bipush 99, 2) := by decide +kernel
theorem dX8_readsItem_135 : decode cX8_readsItem 135 = .ok (.invokevirtual 85, 3) := by decide +kernel
theorem dX8_readsItem_138 : decode cX8_readsItem 138 = .ok (.ifCond .eq 7, 3) := by decide +kernel
theorem dX8_readsItem_141 : decode cX8_readsItem 141 = .ok (.iconst 1, 1) := by decide +kernel
theorem dX8_readsItem_142 : decode cX8_readsItem 142 = .ok (.goto 4, 3) := by decide +kernel
theorem dX8_readsItem_145 : decode cX8_readsItem 145 = .ok (.iconst 0, 1) := by decide +kernel
theorem dX8_readsItem_146 : decode cX8_readsItem 146 = .ok (.ireturn, 1) := by decide +kernel
theorem dX8_reads_0 : decode cX8_reads 0 = .ok (.iconst 0, 1) := by decide +kernel
theorem dX8_reads_1 : decode cX8_reads 1 = .ok (.istore_n 1, 1) := by decide +kernel
theorem dX8_reads_2 : decode cX8_reads 2 = .ok (.iload_n 1, 1) := by decide +kernel
theorem dX8_reads_3 : decode cX8_reads 3 = .ok (.bipush 33, 2) := by decide +kernel
theorem dX8_reads_5 : decode cX8_reads 5 = .ok (.if_icmp .ge 16, 3) := by decide +kernel
theorem dX8_reads_8 : decode cX8_reads 8 = .ok (.aload_n 0, 1) := by decide +kernel
theorem dX8_reads_9 : decode cX8_reads 9 = .ok (.getfield 16, 3) := by decide +kernel
theorem dX8_reads_12 : decode cX8_reads 12 = .ok (.iload_n 1, 1) := by decide +kernel
theorem dX8_reads_13 : decode cX8_reads 13 = .ok (.iconst 0, 1) := by decide +kernel
theorem dX8_reads_14 : decode cX8_reads 14 = .ok (.iastore, 1) := by decide +kernel
theorem dX8_reads_15 : decode cX8_reads 15 = .ok (.iinc 1 1, 3) := by decide +kernel
theorem dX8_reads_18 : decode cX8_reads 18 = .ok (.goto (-16), 3) := by decide +kernel
theorem dX8_reads_21 : decode cX8_reads 21 = .ok (.aload_n 0, 1) := by decide +kernel
theorem dX8_reads_22 : decode cX8_reads 22 = .ok (.getfield 16, 3) := by decide +kernel
theorem dX8_reads_25 : decode cX8_reads 25 = .ok (.iconst 1, 1) := by decide +kernel
theorem dX8_reads_26 : decode cX8_reads 26 = .ok (.iconst 5, 1) := by decide +kernel
theorem dX8_reads_27 : decode cX8_reads 27 = .ok (.iastore, 1) := by decide +kernel
theorem dX8_reads_28 : decode cX8_reads 28 = .ok (.aload_n 0, 1) := by decide +kernel
theorem dX8_reads_29 : decode cX8_reads 29 = .ok (.getfield 16, 3) := by decide +kernel
theorem dX8_reads_32 : decode cX8_reads 32 = .ok (.iconst 2, 1) := by decide +kernel
theorem dX8_reads_33 : decode cX8_reads 33 = .ok (.bipush 60, 2) := by decide +kernel
theorem dX8_reads_35 : decode cX8_reads 35 = .ok (.iastore, 1) := by decide +kernel
theorem dX8_reads_36 : decode cX8_reads 36 = .ok (.aload_n 0, 1) := by decide +kernel
theorem dX8_reads_37 : decode cX8_reads 37 = .ok (.iconst 0, 1) := by decide +kernel
theorem dX8_reads_38 : decode cX8_reads 38 = .ok (.putfield 59, 3) := by decide +kernel
theorem dX8_reads_41 : decode cX8_reads 41 = .ok (.aload_n 0, 1) := by decide +kernel
theorem dX8_reads_42 : decode cX8_reads 42 = .ok (.invokevirtual 79, 3) := by decide +kernel
theorem dX8_reads_45 : decode cX8_reads 45 = .ok (.aload_n 0, 1) := by decide +kernel
theorem dX8_reads_46 : decode cX8_reads 46 = .ok (.getfield 73, 3) := by decide +kernel
theorem dX8_reads_49 : decode cX8_reads 49 = .ok (.ifCond .eq 43, 3) := by decide +kernel
theorem dX8_reads_52 : decode cX8_reads 52 = .ok (.aload_n 0, 1) := by decide +kernel
theorem dX8_reads_53 : decode cX8_reads 53 = .ok (.invokevirtual 89, 3) := by decide +kernel
theorem dX8_reads_56 : decode cX8_reads 56 = .ok (.ifCond .ne 5, 3) := by decide +kernel
theorem dX8_reads_59 : decode cX8_reads 59 = .ok (.iconst 0, 1) := by decide +kernel
theorem dX8_reads_60 : decode cX8_reads 60 = .ok (.ireturn, 1) := by decide +kernel
theorem dX8_reads_61 : decode cX8_reads 61 = .ok (.aload_n 0, 1) := by decide +kernel
theorem dX8_reads_62 : decode cX8_reads 62 = .ok (.invokevirtual 79, 3) := by decide +kernel
theorem dX8_reads_65 : decode cX8_reads 65 = .ok (.aload_n 0, 1) := by decide +kernel
theorem dX8_reads_66 : decode cX8_reads 66 = .ok (.getfield 73, 3) := by decide +kernel
theorem dX8_reads_69 : decode cX8_reads 69 = .ok (.iconst 3, 1) := by decide +kernel
theorem dX8_reads_70 : decode cX8_reads 70 = .ok (.if_icmp .eq 5, 3) := by decide +kernel
theorem dX8_reads_73 : decode cX8_reads 73 = .ok (.iconst 0, 1) := by decide +kernel
theorem dX8_reads_74 : decode cX8_reads 74 = .ok (.ireturn, 1) := by decide +kernel
theorem dX8_reads_75 : decode cX8_reads 75 = .ok (.aload_n 0, 1) := by decide +kernel
theorem dX8_reads_76 : decode cX8_reads 76 = .ok (.getfield 16, 3) := by decide +kernel
theorem dX8_reads_79 : decode cX8_reads 79 = .ok (.iconst 3, 1) := by decide +kernel
theorem dX8_reads_80 : decode cX8_reads 80 = .ok (.dup2, 1) := by decide +kernel
theorem dX8_reads_81 : decode cX8_reads 81 = .ok (.iaload, 1) := by decide +kernel
theorem dX8_reads_82 : decode cX8_reads 82 = .ok (.iconst 1, 1) := by decide +kernel
theorem dX8_reads_83 : decode cX8_reads 83 = .ok (.iadd, 1) := by decide +kernel
theorem dX8_reads_84 : decode cX8_reads 84 = .ok (.iastore, 1) := by decide +kernel
theorem dX8_reads_85 : decode cX8_reads 85 = .ok (.aload_n 0, 1) := by decide +kernel
theorem dX8_reads_86 : decode cX8_reads 86 = .ok (.invokevirtual 79, 3) := by decide +kernel
theorem dX8_reads_89 : decode cX8_reads 89 = .ok (.goto (-44), 3) := by decide +kernel
theorem dX8_reads_92 : decode cX8_reads 92 = .ok (.iconst 1, 1) := by decide +kernel
theorem dX8_reads_93 : decode cX8_reads 93 = .ok (.ireturn, 1) := by decide +kernel
theorem dX8_tells_0 : decode cX8_tells 0 = .ok (.iconst 0, 1) := by decide +kernel
theorem dX8_tells_1 : decode cX8_tells 1 = .ok (.istore_n 1, 1) := by decide +kernel
theorem dX8_tells_2 : decode cX8_tells 2 = .ok (.iload_n 1, 1) := by decide +kernel
theorem dX8_tells_3 : decode cX8_tells 3 = .ok (.bipush 33, 2) := by decide +kernel
theorem dX8_tells_5 : decode cX8_tells 5 = .ok (.if_icmp .ge 21, 3) := by decide +kernel
theorem dX8_tells_8 : decode cX8_tells 8 = .ok (.aload_n 0, 1) := by decide +kernel
theorem dX8_tells_9 : decode cX8_tells 9 = .ok (.getfield 13, 3) := by decide +kernel
theorem dX8_tells_12 : decode cX8_tells 12 = .ok (.iload_n 1, 1) := by decide +kernel
theorem dX8_tells_13 : decode cX8_tells 13 = .ok (.aload_n 0, 1) := by decide +kernel
theorem dX8_tells_14 : decode cX8_tells 14 = .ok (.getfield 16, 3) := by decide +kernel
theorem dX8_tells_17 : decode cX8_tells 17 = .ok (.iload_n 1, 1) := by decide +kernel
theorem dX8_tells_18 : decode cX8_tells 18 = .ok (.iaload, 1) := by decide +kernel
theorem dX8_tells_19 : decode cX8_tells 19 = .ok (.iastore, 1) := by decide +kernel
theorem dX8_tells_20 : decode cX8_tells 20 = .ok (.iinc 1 1, 3) := by decide +kernel
theorem dX8_tells_23 : decode cX8_tells 23 = .ok (.goto (-21), 3) := by decide +kernel
theorem dX8_tells_26 : decode cX8_tells 26 = .ok (.iconst 0, 1) := by decide +kernel
theorem dX8_tells_27 : decode cX8_tells 27 = .ok (.istore_n 1, 1) := by decide +kernel
theorem dX8_tells_28 : decode cX8_tells 28 = .ok (.iload_n 1, 1) := by decide +kernel
theorem dX8_tells_29 : decode cX8_tells 29 = .ok (.bipush 51, 2) := by decide +kernel
theorem dX8_tells_31 : decode cX8_tells 31 = .ok (.if_icmp .ge 16, 3) := by decide +kernel
theorem dX8_tells_34 : decode cX8_tells 34 = .ok (.aload_n 0, 1) := by decide +kernel
theorem dX8_tells_35 : decode cX8_tells 35 = .ok (.getfield 19, 3) := by decide +kernel
theorem dX8_tells_38 : decode cX8_tells 38 = .ok (.iload_n 1, 1) := by decide +kernel
theorem dX8_tells_39 : decode cX8_tells 39 = .ok (.iconst 0, 1) := by decide +kernel
theorem dX8_tells_40 : decode cX8_tells 40 = .ok (.iastore, 1) := by decide +kernel
theorem dX8_tells_41 : decode cX8_tells 41 = .ok (.iinc 1 1, 3) := by decide +kernel
theorem dX8_tells_44 : decode cX8_tells 44 = .ok (.goto (-16), 3) := by decide +kernel
theorem dX8_tells_47 : decode cX8_tells 47 = .ok (.iconst 0, 1) := by decide +kernel
theorem dX8_tells_48 : decode cX8_tells 48 = .ok (.istore_n 1, 1) := by decide +kernel
theorem dX8_tells_49 : decode cX8_tells 49 = .ok (.iload_n 1, 1) := by decide +kernel
theorem dX8_tells_50 : decode cX8_tells 50 = .ok (.aload_n 0, 1) := by decide +kernel
theorem dX8_tells_51 : decode cX8_tells 51 = .ok (.getfield 13, 3) := by decide +kernel
theorem dX8_tells_54 : decode cX8_tells 54 = .ok (.iconst 0, 1) := by decide +kernel
theorem dX8_tells_55 : decode cX8_tells 55 = .ok (.iaload, 1) := by decide +kernel
theorem dX8_tells_56 : decode cX8_tells 56 = .ok (.if_icmp .ge 27, 3) := by decide +kernel
theorem dX8_tells_59 : decode cX8_tells 59 = .ok (.aload_n 0, 1) := by decide +kernel
theorem dX8_tells_60 : decode cX8_tells 60 = .ok (.getfield 19, 3) := by decide +kernel
theorem dX8_tells_63 : decode cX8_tells 63 = .ok (.bipush 8, 2) := by decide +kernel
theorem dX8_tells_65 : decode cX8_tells 65 = .ok (.iload_n 1, 1) := by decide +kernel
theorem dX8_tells_66 : decode cX8_tells 66 = .ok (.imul, 1) := by decide +kernel
theorem dX8_tells_67 : decode cX8_tells 67 = .ok (.aload_n 0, 1) := by decide +kernel
theorem dX8_tells_68 : decode cX8_tells 68 = .ok (.getfield 13, 3) := by decide +kernel
theorem dX8_tells_71 : decode cX8_tells 71 = .ok (.bipush 12, 2) := by decide +kernel
theorem dX8_tells_73 : decode cX8_tells 73 = .ok (.iload_n 1, 1) := by decide +kernel
theorem dX8_tells_74 : decode cX8_tells 74 = .ok (.iadd, 1) := by decide +kernel
theorem dX8_tells_75 : decode cX8_tells 75 = .ok (.iaload, 1) := by decide +kernel
theorem dX8_tells_76 : decode cX8_tells 76 = .ok (.iastore, 1) := by decide +kernel
theorem dX8_tells_77 : decode cX8_tells 77 = .ok (.iinc 1 1, 3) := by decide +kernel
theorem dX8_tells_80 : decode cX8_tells 80 = .ok (.goto (-31), 3) := by decide +kernel
theorem dX8_tells_83 : decode cX8_tells 83 = .ok (.aload_n 0, 1) := by decide +kernel
theorem dX8_tells_84 : decode cX8_tells 84 = .ok (.iconst 0, 1) := by decide +kernel
theorem dX8_tells_85 : decode cX8_tells 85 = .ok (.putfield 92, 3) := by decide +kernel
theorem dX8_tells_88 : decode cX8_tells 88 = .ok (.aload_n 0, 1) := by decide +kernel
theorem dX8_tells_89 : decode cX8_tells 89 = .ok (.iconst 0, 1) := by decide +kernel
theorem dX8_tells_90 : decode cX8_tells 90 = .ok (.putfield 95, 3) := by decide +kernel
theorem dX8_tells_93 : decode cX8_tells 93 = .ok (.aload_n 0, 1) := by decide +kernel
theorem dX8_tells_94 : decode cX8_tells 94 = .ok (.getfield 28, 3) := by decide +kernel
theorem dX8_tells_97 : decode cX8_tells 97 = .ok (.iconst 0, 1) := by decide +kernel
theorem dX8_tells_98 : decode cX8_tells 98 = .ok (.iconst 0, 1) := by decide +kernel
theorem dX8_tells_99 : decode cX8_tells 99 = .ok (.bastore, 1) := by decide +kernel
theorem dX8_tells_100 : decode cX8_tells 100 = .ok (.aload_n 0, 1) := by decide +kernel
theorem dX8_tells_101 : decode cX8_tells 101 = .ok (.getfield 28, 3) := by decide +kernel
theorem dX8_tells_104 : decode cX8_tells 104 = .ok (.iconst 1, 1) := by decide +kernel
theorem dX8_tells_105 : decode cX8_tells 105 = .ok (.iconst 0, 1) := by decide +kernel
theorem dX8_tells_106 : decode cX8_tells 106 = .ok (.bastore, 1) := by decide +kernel
theorem dX8_tells_107 : decode cX8_tells 107 = .ok (.return_, 1) := by decide +kernel
theorem dX8_house_0 : decode cX8_house 0 = .ok (.aload_n 0, 1) := by decide +kernel
theorem dX8_house_1 : decode cX8_house 1 = .ok (.invokevirtual 44, 3) := by decide +kernel
theorem dX8_house_4 : decode cX8_house 4 = .ok (.ifCond .ne 11, 3) := by decide +kernel
theorem dX8_house_7 : decode cX8_house 7 = .ok (.bipush (-10), 2) := by decide +kernel
theorem dX8_house_9 : decode cX8_house 9 = .ok (.aload_n 0, 1) := by decide +kernel
theorem dX8_house_10 : decode cX8_house 10 = .ok (.getfield 66, 3) := by decide +kernel
theorem dX8_house_13 : decode cX8_house 13 = .ok (.isub, 1) := by decide +kernel
theorem dX8_house_14 : decode cX8_house 14 = .ok (.ireturn, 1) := by decide +kernel
theorem dX8_house_15 : decode cX8_house 15 = .ok (.aload_n 0, 1) := by decide +kernel
theorem dX8_house_16 : decode cX8_house 16 = .ok (.invokevirtual 48, 3) := by decide +kernel
theorem dX8_house_19 : decode cX8_house 19 = .ok (.aload_n 0, 1) := by decide +kernel
theorem dX8_house_20 : decode cX8_house 20 = .ok (.iconst 0, 1) := by decide +kernel
theorem dX8_house_21 : decode cX8_house 21 = .ok (.putfield 55, 3) := by decide +kernel
theorem dX8_house_24 : decode cX8_house 24 = .ok (.aload_n 0, 1) := by decide +kernel
theorem dX8_house_25 : decode cX8_house 25 = .ok (.getfield 13, 3) := by decide +kernel
theorem dX8_house_28 : decode cX8_house 28 = .ok (.iconst 3, 1) := by decide +kernel
theorem dX8_house_29 : decode cX8_house 29 = .ok (.iaload, 1) := by decide +kernel
theorem dX8_house_30 : decode cX8_house 30 = .ok (.ireturn, 1) := by decide +kernel
theorem dX8_full_0 : decode cX8_full 0 = .ok (.iconst 0, 1) := by decide +kernel
theorem dX8_full_1 : decode cX8_full 1 = .ok (.istore_n 2, 1) := by decide +kernel
theorem dX8_full_2 : decode cX8_full 2 = .ok (.iconst 0, 1) := by decide +kernel
theorem dX8_full_3 : decode cX8_full 3 = .ok (.istore_n 3, 1) := by decide +kernel
theorem dX8_full_4 : decode cX8_full 4 = .ok (.iload_n 3, 1) := by decide +kernel
theorem dX8_full_5 : decode cX8_full 5 = .ok (.bipush 7, 2) := by decide +kernel
theorem dX8_full_7 : decode cX8_full 7 = .ok (.if_icmp .ge 23, 3) := by decide +kernel
theorem dX8_full_10 : decode cX8_full 10 = .ok (.iload_n 2, 1) := by decide +kernel
theorem dX8_full_11 : decode cX8_full 11 = .ok (.aload_n 0, 1) := by decide +kernel
theorem dX8_full_12 : decode cX8_full 12 = .ok (.getfield 19, 3) := by decide +kernel
theorem dX8_full_15 : decode cX8_full 15 = .ok (.bipush 7, 2) := by decide +kernel
theorem dX8_full_17 : decode cX8_full 17 = .ok (.iload_n 1, 1) := by decide +kernel
theorem dX8_full_18 : decode cX8_full 18 = .ok (.imul, 1) := by decide +kernel
theorem dX8_full_19 : decode cX8_full 19 = .ok (.iload_n 3, 1) := by decide +kernel
theorem dX8_full_20 : decode cX8_full 20 = .ok (.iadd, 1) := by decide +kernel
theorem dX8_full_21 : decode cX8_full 21 = .ok (.iaload, 1) := by decide +kernel
theorem dX8_full_22 : decode cX8_full 22 = .ok (.iadd, 1) := by decide +kernel
theorem dX8_full_23 : decode cX8_full 23 = .ok (.istore_n 2, 1) := by decide +kernel
theorem dX8_full_24 : decode cX8_full 24 = .ok (.iinc 3 1, 3) := by decide +kernel
theorem dX8_full_27 : decode cX8_full 27 = .ok (.goto (-23), 3) := by decide +kernel
theorem dX8_full_30 : decode cX8_full 30 = .ok (.iload_n 2, 1) := by decide +kernel
theorem dX8_full_31 : decode cX8_full 31 = .ok (.ireturn, 1) := by decide +kernel
theorem dX8_isRead_0 : decode cX8_isRead 0 = .ok (.aload_n 0, 1) := by decide +kernel
theorem dX8_isRead_1 : decode cX8_isRead 1 = .ok (.getfield 19, 3) := by decide +kernel
theorem dX8_isRead_4 : decode cX8_isRead 4 = .ok (.bipush 8, 2) := by decide +kernel
theorem dX8_isRead_6 : decode cX8_isRead 6 = .ok (.iload_n 1, 1) := by decide +kernel
theorem dX8_isRead_7 : decode cX8_isRead 7 = .ok (.imul, 1) := by decide +kernel
theorem dX8_isRead_8 : decode cX8_isRead 8 = .ok (.iaload, 1) := by decide +kernel
theorem dX8_isRead_9 : decode cX8_isRead 9 = .ok (.aload_n 0, 1) := by decide +kernel
theorem dX8_isRead_10 : decode cX8_isRead 10 = .ok (.getfield 13, 3) := by decide +kernel
theorem dX8_isRead_13 : decode cX8_isRead 13 = .ok (.iconst 1, 1) := by decide +kernel
theorem dX8_isRead_14 : decode cX8_isRead 14 = .ok (.iaload, 1) := by decide +kernel
theorem dX8_isRead_15 : decode cX8_isRead 15 = .ok (.if_icmp .lt 24, 3) := by decide +kernel
theorem dX8_isRead_18 : decode cX8_isRead 18 = .ok (.aload_n 0, 1) := by decide +kernel
theorem dX8_isRead_19 : decode cX8_isRead 19 = .ok (.iload_n 1, 1) := by decide +kernel
theorem dX8_isRead_20 : decode cX8_isRead 20 = .ok (.invokevirtual 98, 3) := by decide +kernel
theorem dX8_isRead_23 : decode cX8_isRead 23 = .ok (.aload_n 0, 1) := by decide +kernel
theorem dX8_isRead_24 : decode cX8_isRead 24 = .ok (.getfield 19, 3) := by decide +kernel
theorem dX8_isRead_27 : decode cX8_isRead 27 = .ok (.bipush 8, 2) := by decide +kernel
theorem dX8_isRead_29 : decode cX8_isRead 29 = .ok (.iload_n 1, 1) := by decide +kernel
theorem dX8_isRead_30 : decode cX8_isRead 30 = .ok (.imul, 1) := by decide +kernel
theorem dX8_isRead_31 : decode cX8_isRead 31 = .ok (.iaload, 1) := by decide +kernel
theorem dX8_isRead_32 : decode cX8_isRead 32 = .ok (.if_icmp .ne 7, 3) := by decide +kernel
theorem dX8_isRead_35 : decode cX8_isRead 35 = .ok (.iconst 1, 1) := by decide +kernel
theorem dX8_isRead_36 : decode cX8_isRead 36 = .ok (.goto 4, 3) := by decide +kernel
theorem dX8_isRead_39 : decode cX8_isRead 39 = .ok (.iconst 0, 1) := by decide +kernel
theorem dX8_isRead_40 : decode cX8_isRead 40 = .ok (.ireturn, 1) := by decide +kernel
theorem dX8_allRead_0 : decode cX8_allRead 0 = .ok (.iconst 0, 1) := by decide +kernel
theorem dX8_allRead_1 : decode cX8_allRead 1 = .ok (.istore_n 1, 1) := by decide +kernel
theorem dX8_allRead_2 : decode cX8_allRead 2 = .ok (.iconst 0, 1) := by decide +kernel
theorem dX8_allRead_3 : decode cX8_allRead 3 = .ok (.istore_n 2, 1) := by decide +kernel
theorem dX8_allRead_4 : decode cX8_allRead 4 = .ok (.iload_n 2, 1) := by decide +kernel
theorem dX8_allRead_5 : decode cX8_allRead 5 = .ok (.aload_n 0, 1) := by decide +kernel
theorem dX8_allRead_6 : decode cX8_allRead 6 = .ok (.getfield 13, 3) := by decide +kernel
theorem dX8_allRead_9 : decode cX8_allRead 9 = .ok (.iconst 0, 1) := by decide +kernel
theorem dX8_allRead_10 : decode cX8_allRead 10 = .ok (.iaload, 1) := by decide +kernel
theorem dX8_allRead_11 : decode cX8_allRead 11 = .ok (.if_icmp .ge 27, 3) := by decide +kernel
theorem dX8_allRead_14 : decode cX8_allRead 14 = .ok (.iload_n 1, 1) := by decide +kernel
theorem dX8_allRead_15 : decode cX8_allRead 15 = .ok (.aload_n 0, 1) := by decide +kernel
theorem dX8_allRead_16 : decode cX8_allRead 16 = .ok (.iload_n 2, 1) := by decide +kernel
theorem dX8_allRead_17 : decode cX8_allRead 17 = .ok (.invokevirtual 101, 3) := by decide +kernel
theorem dX8_allRead_20 : decode cX8_allRead 20 = .ok (.ifCond .eq 9, 3) := by decide +kernel
theorem dX8_allRead_23 : decode cX8_allRead 23 = .ok (.iconst 1, 1) := by decide +kernel
theorem dX8_allRead_24 : decode cX8_allRead 24 = .ok (.iload_n 2, 1) := by decide +kernel
theorem dX8_allRead_25 : decode cX8_allRead 25 = .ok (.ishl, 1) := by decide +kernel
theorem dX8_allRead_26 : decode cX8_allRead 26 = .ok (.goto 4, 3) := by decide +kernel
theorem dX8_allRead_29 : decode cX8_allRead 29 = .ok (.iconst 0, 1) := by decide +kernel
theorem dX8_allRead_30 : decode cX8_allRead 30 = .ok (.ior, 1) := by decide +kernel
theorem dX8_allRead_31 : decode cX8_allRead 31 = .ok (.istore_n 1, 1) := by decide +kernel
theorem dX8_allRead_32 : decode cX8_allRead 32 = .ok (.iinc 2 1, 3) := by decide +kernel
theorem dX8_allRead_35 : decode cX8_allRead 35 = .ok (.goto (-31), 3) := by decide +kernel
theorem dX8_allRead_38 : decode cX8_allRead 38 = .ok (.iload_n 1, 1) := by decide +kernel
theorem dX8_allRead_39 : decode cX8_allRead 39 = .ok (.ireturn, 1) := by decide +kernel
theorem dX8_pan_0 : decode cX8_pan 0 = .ok (.aload_n 0, 1) := by decide +kernel
theorem dX8_pan_1 : decode cX8_pan 1 = .ok (.iload_n 1, 1) := by decide +kernel
theorem dX8_pan_2 : decode cX8_pan 2 = .ok (.invokevirtual 104, 3) := by decide +kernel
theorem dX8_pan_5 : decode cX8_pan 5 = .ok (.ifCond .eq 13, 3) := by decide +kernel
theorem dX8_pan_8 : decode cX8_pan 8 = .ok (.iload_n 2, 1) := by decide +kernel
theorem dX8_pan_9 : decode cX8_pan 9 = .ok (.iconst 0, 1) := by decide +kernel
theorem dX8_pan_10 : decode cX8_pan 10 = .ok (.bipush 6, 2) := by decide +kernel
theorem dX8_pan_12 : decode cX8_pan 12 = .ok (.invokestatic 51, 3) := by decide +kernel
theorem dX8_pan_15 : decode cX8_pan 15 = .ok (.ifCond .ne 5, 3) := by decide +kernel
theorem dX8_pan_18 : decode cX8_pan 18 = .ok (.iconst (-1), 1) := by decide +kernel
theorem dX8_pan_19 : decode cX8_pan 19 = .ok (.ireturn, 1) := by decide +kernel
theorem dX8_pan_20 : decode cX8_pan 20 = .ok (.iconst 0, 1) := by decide +kernel
theorem dX8_pan_21 : decode cX8_pan 21 = .ok (.istore_n 3, 1) := by decide +kernel
theorem dX8_pan_22 : decode cX8_pan 22 = .ok (.iconst 0, 1) := by decide +kernel
theorem dX8_pan_23 : decode cX8_pan 23 = .ok (.istore 4, 2) := by decide +kernel
theorem dX8_pan_25 : decode cX8_pan 25 = .ok (.iconst 0, 1) := by decide +kernel
theorem dX8_pan_26 : decode cX8_pan 26 = .ok (.istore 5, 2) := by decide +kernel
theorem dX8_pan_28 : decode cX8_pan 28 = .ok (.iload 5, 2) := by decide +kernel
theorem dX8_pan_30 : decode cX8_pan 30 = .ok (.aload_n 0, 1) := by decide +kernel
theorem dX8_pan_31 : decode cX8_pan 31 = .ok (.getfield 13, 3) := by decide +kernel
theorem dX8_pan_34 : decode cX8_pan 34 = .ok (.iconst 0, 1) := by decide +kernel
theorem dX8_pan_35 : decode cX8_pan 35 = .ok (.iaload, 1) := by decide +kernel
theorem dX8_pan_36 : decode cX8_pan 36 = .ok (.if_icmp .ge 62, 3) := by decide +kernel
theorem dX8_pan_39 : decode cX8_pan 39 = .ok (.iload_n 3, 1) := by decide +kernel
theorem dX8_pan_40 : decode cX8_pan 40 = .ok (.aload_n 0, 1) := by decide +kernel
theorem dX8_pan_41 : decode cX8_pan 41 = .ok (.getfield 19, 3) := by decide +kernel
theorem dX8_pan_44 : decode cX8_pan 44 = .ok (.bipush 7, 2) := by decide +kernel
theorem dX8_pan_46 : decode cX8_pan 46 = .ok (.iload_n 1, 1) := by decide +kernel
theorem dX8_pan_47 : decode cX8_pan 47 = .ok (.imul, 1) := by decide +kernel
theorem dX8_pan_48 : decode cX8_pan 48 = .ok (.iload 5, 2) := by decide +kernel
theorem dX8_pan_50 : decode cX8_pan 50 = .ok (.iadd, 1) := by decide +kernel
theorem dX8_pan_51 : decode cX8_pan 51 = .ok (.iaload, 1) := by decide +kernel
theorem dX8_pan_52 : decode cX8_pan 52 = .ok (.aload_n 0, 1) := by decide +kernel
theorem dX8_pan_53 : decode cX8_pan 53 = .ok (.getfield 13, 3) := by decide +kernel
theorem dX8_pan_56 : decode cX8_pan 56 = .ok (.iconst 5, 1) := by decide +kernel
theorem dX8_pan_57 : decode cX8_pan 57 = .ok (.iload 5, 2) := by decide +kernel
theorem dX8_pan_59 : decode cX8_pan 59 = .ok (.iadd, 1) := by decide +kernel
theorem dX8_pan_60 : decode cX8_pan 60 = .ok (.iaload, 1) := by decide +kernel
theorem dX8_pan_61 : decode cX8_pan 61 = .ok (.imul, 1) := by decide +kernel
theorem dX8_pan_62 : decode cX8_pan 62 = .ok (.iadd, 1) := by decide +kernel
theorem dX8_pan_63 : decode cX8_pan 63 = .ok (.istore_n 3, 1) := by decide +kernel
theorem dX8_pan_64 : decode cX8_pan 64 = .ok (.iload 4, 2) := by decide +kernel
theorem dX8_pan_66 : decode cX8_pan 66 = .ok (.aload_n 0, 1) := by decide +kernel
theorem dX8_pan_67 : decode cX8_pan 67 = .ok (.getfield 19, 3) := by decide +kernel
theorem dX8_pan_70 : decode cX8_pan 70 = .ok (.bipush 7, 2) := by decide +kernel
theorem dX8_pan_72 : decode cX8_pan 72 = .ok (.iload 5, 2) := by decide +kernel
theorem dX8_pan_74 : decode cX8_pan 74 = .ok (.imul, 1) := by decide +kernel
theorem dX8_pan_75 : decode cX8_pan 75 = .ok (.iload_n 1, 1) := by decide +kernel
theorem dX8_pan_76 : decode cX8_pan 76 = .ok (.iadd, 1) := by decide +kernel
theorem dX8_pan_77 : decode cX8_pan 77 = .ok (.iaload, 1) := by decide +kernel
theorem dX8_pan_78 : decode cX8_pan 78 = .ok (.ifCond .le 10, 3) := by decide +kernel
theorem dX8_pan_81 : decode cX8_pan 81 = .ok (.iconst 1, 1) := by decide +kernel
theorem dX8_pan_82 : decode cX8_pan 82 = .ok (.iload 5, 2) := by decide +kernel
theorem dX8_pan_84 : decode cX8_pan 84 = .ok (.ishl, 1) := by decide +kernel
theorem dX8_pan_85 : decode cX8_pan 85 = .ok (.goto 4, 3) := by decide +kernel
theorem dX8_pan_88 : decode cX8_pan 88 = .ok (.iconst 0, 1) := by decide +kernel
theorem dX8_pan_89 : decode cX8_pan 89 = .ok (.ior, 1) := by decide +kernel
theorem dX8_pan_90 : decode cX8_pan 90 = .ok (.istore 4, 2) := by decide +kernel
theorem dX8_pan_92 : decode cX8_pan 92 = .ok (.iinc 5 1, 3) := by decide +kernel
theorem dX8_pan_95 : decode cX8_pan 95 = .ok (.goto (-67), 3) := by decide +kernel
theorem dX8_pan_98 : decode cX8_pan 98 = .ok (.iload_n 2, 1) := by decide +kernel
theorem dX8_pan_99 : decode cX8_pan 99 = .ok (.tableswitch 88 0 5 #[37, 46, 56, 66, 72, 86], 37) := by decide +kernel
theorem dX8_pan_136 : decode cX8_pan 136 = .ok (.aload_n 0, 1) := by decide +kernel
theorem dX8_pan_137 : decode cX8_pan 137 = .ok (.getfield 13, 3) := by decide +kernel
theorem dX8_pan_140 : decode cX8_pan 140 = .ok (.iconst 5, 1) := by decide +kernel
theorem dX8_pan_141 : decode cX8_pan 141 = .ok (.iload_n 1, 1) := by decide +kernel
theorem dX8_pan_142 : decode cX8_pan 142 = .ok (.iadd, 1) := by decide +kernel
theorem dX8_pan_143 : decode cX8_pan 143 = .ok (.iaload, 1) := by decide +kernel
theorem dX8_pan_144 : decode cX8_pan 144 = .ok (.ireturn, 1) := by decide +kernel
theorem dX8_pan_145 : decode cX8_pan 145 = .ok (.aload_n 0, 1) := by decide +kernel
theorem dX8_pan_146 : decode cX8_pan 146 = .ok (.getfield 13, 3) := by decide +kernel
theorem dX8_pan_149 : decode cX8_pan 149 = .ok (.bipush 19, 2) := by decide +kernel
theorem dX8_pan_151 : decode cX8_pan 151 = .ok (.iload_n 1, 1) := by decide +kernel
theorem dX8_pan_152 : decode cX8_pan 152 = .ok (.iadd, 1) := by decide +kernel
theorem dX8_pan_153 : decode cX8_pan 153 = .ok (.iaload, 1) := by decide +kernel
theorem dX8_pan_154 : decode cX8_pan 154 = .ok (.ireturn, 1) := by decide +kernel
theorem dX8_pan_155 : decode cX8_pan 155 = .ok (.aload_n 0, 1) := by decide +kernel
theorem dX8_pan_156 : decode cX8_pan 156 = .ok (.getfield 13, 3) := by decide +kernel
theorem dX8_pan_159 : decode cX8_pan 159 = .ok (.bipush 26, 2) := by decide +kernel
theorem dX8_pan_161 : decode cX8_pan 161 = .ok (.iload_n 1, 1) := by decide +kernel
theorem dX8_pan_162 : decode cX8_pan 162 = .ok (.iadd, 1) := by decide +kernel
theorem dX8_pan_163 : decode cX8_pan 163 = .ok (.iaload, 1) := by decide +kernel
theorem dX8_pan_164 : decode cX8_pan 164 = .ok (.ireturn, 1) := by decide +kernel
theorem dX8_pan_165 : decode cX8_pan 165 = .ok (.aload_n 0, 1) := by decide +kernel
theorem dX8_pan_166 : decode cX8_pan 166 = .ok (.iload_n 1, 1) := by decide +kernel
theorem dX8_pan_167 : decode cX8_pan 167 = .ok (.invokevirtual 98, 3) := by decide +kernel
theorem dX8_pan_170 : decode cX8_pan 170 = .ok (.ireturn, 1) := by decide +kernel
theorem dX8_pan_171 : decode cX8_pan 171 = .ok (.aload_n 0, 1) := by decide +kernel
theorem dX8_pan_172 : decode cX8_pan 172 = .ok (.iload_n 1, 1) := by decide +kernel
theorem dX8_pan_173 : decode cX8_pan 173 = .ok (.invokevirtual 101, 3) := by decide +kernel
theorem dX8_pan_176 : decode cX8_pan 176 = .ok (.ifCond .eq 7, 3) := by decide +kernel
theorem dX8_pan_179 : decode cX8_pan 179 = .ok (.iconst 1, 1) := by decide +kernel
theorem dX8_pan_180 : decode cX8_pan 180 = .ok (.goto 4, 3) := by decide +kernel
theorem dX8_pan_183 : decode cX8_pan 183 = .ok (.iconst 0, 1) := by decide +kernel
theorem dX8_pan_184 : decode cX8_pan 184 = .ok (.ireturn, 1) := by decide +kernel
theorem dX8_pan_185 : decode cX8_pan 185 = .ok (.iload_n 3, 1) := by decide +kernel
theorem dX8_pan_186 : decode cX8_pan 186 = .ok (.ireturn, 1) := by decide +kernel
theorem dX8_pan_187 : decode cX8_pan 187 = .ok (.iload 4, 2) := by decide +kernel
theorem dX8_pan_189 : decode cX8_pan 189 = .ok (.ireturn, 1) := by decide +kernel
theorem dX8_holds_0 : decode cX8_holds 0 = .ok (.aload_n 0, 1) := by decide +kernel
theorem dX8_holds_1 : decode cX8_holds 1 = .ok (.iload_n 1, 1) := by decide +kernel
theorem dX8_holds_2 : decode cX8_holds 2 = .ok (.invokevirtual 104, 3) := by decide +kernel
theorem dX8_holds_5 : decode cX8_holds 5 = .ok (.ifCond .eq 25, 3) := by decide +kernel
theorem dX8_holds_8 : decode cX8_holds 8 = .ok (.aload_n 0, 1) := by decide +kernel
theorem dX8_holds_9 : decode cX8_holds 9 = .ok (.iload_n 2, 1) := by decide +kernel
theorem dX8_holds_10 : decode cX8_holds 10 = .ok (.invokevirtual 104, 3) := by decide +kernel
theorem dX8_holds_13 : decode cX8_holds 13 = .ok (.ifCond .eq 17, 3) := by decide +kernel
theorem dX8_holds_16 : decode cX8_holds 16 = .ok (.aload_n 0, 1) := by decide +kernel
theorem dX8_holds_17 : decode cX8_holds 17 = .ok (.getfield 19, 3) := by decide +kernel
theorem dX8_holds_20 : decode cX8_holds 20 = .ok (.bipush 7, 2) := by decide +kernel
theorem dX8_holds_22 : decode cX8_holds 22 = .ok (.iload_n 1, 1) := by decide +kernel
theorem dX8_holds_23 : decode cX8_holds 23 = .ok (.imul, 1) := by decide +kernel
theorem dX8_holds_24 : decode cX8_holds 24 = .ok (.iload_n 2, 1) := by decide +kernel
theorem dX8_holds_25 : decode cX8_holds 25 = .ok (.iadd, 1) := by decide +kernel
theorem dX8_holds_26 : decode cX8_holds 26 = .ok (.iaload, 1) := by decide +kernel
theorem dX8_holds_27 : decode cX8_holds 27 = .ok (.goto 4, 3) := by decide +kernel
theorem dX8_holds_30 : decode cX8_holds 30 = .ok (.iconst (-1), 1) := by decide +kernel
theorem dX8_holds_31 : decode cX8_holds 31 = .ok (.ireturn, 1) := by decide +kernel
theorem dX8_all_0 : decode cX8_all 0 = .ok (.iconst 0, 1) := by decide +kernel
theorem dX8_all_1 : decode cX8_all 1 = .ok (.istore_n 1, 1) := by decide +kernel
theorem dX8_all_2 : decode cX8_all 2 = .ok (.iconst 0, 1) := by decide +kernel
theorem dX8_all_3 : decode cX8_all 3 = .ok (.istore_n 2, 1) := by decide +kernel
theorem dX8_all_4 : decode cX8_all 4 = .ok (.iload_n 2, 1) := by decide +kernel
theorem dX8_all_5 : decode cX8_all 5 = .ok (.aload_n 0, 1) := by decide +kernel
theorem dX8_all_6 : decode cX8_all 6 = .ok (.getfield 13, 3) := by decide +kernel
theorem dX8_all_9 : decode cX8_all 9 = .ok (.iconst 0, 1) := by decide +kernel
theorem dX8_all_10 : decode cX8_all 10 = .ok (.iaload, 1) := by decide +kernel
theorem dX8_all_11 : decode cX8_all 11 = .ok (.if_icmp .ge 17, 3) := by decide +kernel
theorem dX8_all_14 : decode cX8_all 14 = .ok (.iload_n 1, 1) := by decide +kernel
theorem dX8_all_15 : decode cX8_all 15 = .ok (.aload_n 0, 1) := by decide +kernel
theorem dX8_all_16 : decode cX8_all 16 = .ok (.iload_n 2, 1) := by decide +kernel
theorem dX8_all_17 : decode cX8_all 17 = .ok (.invokevirtual 98, 3) := by decide +kernel
theorem dX8_all_20 : decode cX8_all 20 = .ok (.iadd, 1) := by decide +kernel
theorem dX8_all_21 : decode cX8_all 21 = .ok (.istore_n 1, 1) := by decide +kernel
theorem dX8_all_22 : decode cX8_all 22 = .ok (.iinc 2 1, 3) := by decide +kernel
theorem dX8_all_25 : decode cX8_all 25 = .ok (.goto (-21), 3) := by decide +kernel
theorem dX8_all_28 : decode cX8_all 28 = .ok (.iload_n 1, 1) := by decide +kernel
theorem dX8_all_29 : decode cX8_all 29 = .ok (.ireturn, 1) := by decide +kernel
theorem dX8_wettest_0 : decode cX8_wettest 0 = .ok (.bipush (-9), 2) := by decide +kernel
theorem dX8_wettest_2 : decode cX8_wettest 2 = .ok (.istore_n 1, 1) := by decide +kernel
theorem dX8_wettest_3 : decode cX8_wettest 3 = .ok (.iconst 0, 1) := by decide +kernel
theorem dX8_wettest_4 : decode cX8_wettest 4 = .ok (.istore_n 2, 1) := by decide +kernel
theorem dX8_wettest_5 : decode cX8_wettest 5 = .ok (.iconst 0, 1) := by decide +kernel
theorem dX8_wettest_6 : decode cX8_wettest 6 = .ok (.istore_n 3, 1) := by decide +kernel
theorem dX8_wettest_7 : decode cX8_wettest 7 = .ok (.iload_n 3, 1) := by decide +kernel
theorem dX8_wettest_8 : decode cX8_wettest 8 = .ok (.aload_n 0, 1) := by decide +kernel
theorem dX8_wettest_9 : decode cX8_wettest 9 = .ok (.getfield 13, 3) := by decide +kernel
theorem dX8_wettest_12 : decode cX8_wettest 12 = .ok (.iconst 0, 1) := by decide +kernel
theorem dX8_wettest_13 : decode cX8_wettest 13 = .ok (.iaload, 1) := by decide +kernel
theorem dX8_wettest_14 : decode cX8_wettest 14 = .ok (.if_icmp .ge 160, 3) := by decide +kernel
theorem dX8_wettest_17 : decode cX8_wettest 17 = .ok (.iconst 0, 1) := by decide +kernel
theorem dX8_wettest_18 : decode cX8_wettest 18 = .ok (.istore 4, 2) := by decide +kernel
theorem dX8_wettest_20 : decode cX8_wettest 20 = .ok (.iconst 0, 1) := by decide +kernel
theorem dX8_wettest_21 : decode cX8_wettest 21 = .ok (.istore 5, 2) := by decide +kernel
theorem dX8_wettest_23 : decode cX8_wettest 23 = .ok (.iload 5, 2) := by decide +kernel
theorem dX8_wettest_25 : decode cX8_wettest 25 = .ok (.aload_n 0, 1) := by decide +kernel
theorem dX8_wettest_26 : decode cX8_wettest 26 = .ok (.getfield 13, 3) := by decide +kernel
theorem dX8_wettest_29 : decode cX8_wettest 29 = .ok (.iconst 0, 1) := by decide +kernel
theorem dX8_wettest_30 : decode cX8_wettest 30 = .ok (.iaload, 1) := by decide +kernel
theorem dX8_wettest_31 : decode cX8_wettest 31 = .ok (.if_icmp .ge 71, 3) := by decide +kernel
theorem dX8_wettest_34 : decode cX8_wettest 34 = .ok (.iconst 0, 1) := by decide +kernel
theorem dX8_wettest_35 : decode cX8_wettest 35 = .ok (.istore 6, 2) := by decide +kernel
theorem dX8_wettest_37 : decode cX8_wettest 37 = .ok (.iload 6, 2) := by decide +kernel
theorem dX8_wettest_39 : decode cX8_wettest 39 = .ok (.aload_n 0, 1) := by decide +kernel
theorem dX8_wettest_40 : decode cX8_wettest 40 = .ok (.getfield 13, 3) := by decide +kernel
theorem dX8_wettest_43 : decode cX8_wettest 43 = .ok (.iconst 0, 1) := by decide +kernel
theorem dX8_wettest_44 : decode cX8_wettest 44 = .ok (.iaload, 1) := by decide +kernel
theorem dX8_wettest_45 : decode cX8_wettest 45 = .ok (.if_icmp .ge 51, 3) := by decide +kernel
theorem dX8_wettest_48 : decode cX8_wettest 48 = .ok (.iload 4, 2) := by decide +kernel
theorem dX8_wettest_50 : decode cX8_wettest 50 = .ok (.aload_n 0, 1) := by decide +kernel
theorem dX8_wettest_51 : decode cX8_wettest 51 = .ok (.getfield 13, 3) := by decide +kernel
theorem dX8_wettest_54 : decode cX8_wettest 54 = .ok (.iconst 5, 1) := by decide +kernel
theorem dX8_wettest_55 : decode cX8_wettest 55 = .ok (.iload 5, 2) := by decide +kernel
theorem dX8_wettest_57 : decode cX8_wettest 57 = .ok (.iadd, 1) := by decide +kernel
theorem dX8_wettest_58 : decode cX8_wettest 58 = .ok (.iaload, 1) := by decide +kernel
theorem dX8_wettest_59 : decode cX8_wettest 59 = .ok (.aload_n 0, 1) := by decide +kernel
theorem dX8_wettest_60 : decode cX8_wettest 60 = .ok (.getfield 13, 3) := by decide +kernel
theorem dX8_wettest_63 : decode cX8_wettest 63 = .ok (.iconst 5, 1) := by decide +kernel
theorem dX8_wettest_64 : decode cX8_wettest 64 = .ok (.iload_n 3, 1) := by decide +kernel
theorem dX8_wettest_65 : decode cX8_wettest 65 = .ok (.iadd, 1) := by decide +kernel
theorem dX8_wettest_66 : decode cX8_wettest 66 = .ok (.iaload, 1) := by decide +kernel
theorem dX8_wettest_67 : decode cX8_wettest 67 = .ok (.if_icmp .ne 19, 3) := by decide +kernel
theorem dX8_wettest_70 : decode cX8_wettest 70 = .ok (.aload_n 0, 1) := by decide +kernel
theorem dX8_wettest_71 : decode cX8_wettest 71 = .ok (.getfield 19, 3) := by decide +kernel
theorem dX8_wettest_74 : decode cX8_wettest 74 = .ok (.bipush 7, 2) := by decide +kernel
theorem dX8_wettest_76 : decode cX8_wettest 76 = .ok (.iload 6, 2) := by decide +kernel
theorem dX8_wettest_78 : decode cX8_wettest 78 = .ok (.imul, 1) := by decide +kernel
theorem dX8_wettest_79 : decode cX8_wettest 79 = .ok (.iload 5, 2) := by decide +kernel
theorem dX8_wettest_81 : decode cX8_wettest 81 = .ok (.iadd, 1) := by decide +kernel
theorem dX8_wettest_82 : decode cX8_wettest 82 = .ok (.iaload, 1) := by decide +kernel
theorem dX8_wettest_83 : decode cX8_wettest 83 = .ok (.goto 4, 3) := by decide +kernel
theorem dX8_wettest_86 : decode cX8_wettest 86 = .ok (.iconst 0, 1) := by decide +kernel
theorem dX8_wettest_87 : decode cX8_wettest 87 = .ok (.iadd, 1) := by decide +kernel
theorem dX8_wettest_88 : decode cX8_wettest 88 = .ok (.istore 4, 2) := by decide +kernel
theorem dX8_wettest_90 : decode cX8_wettest 90 = .ok (.iinc 6 1, 3) := by decide +kernel
theorem dX8_wettest_93 : decode cX8_wettest 93 = .ok (.goto (-56), 3) := by decide +kernel
theorem dX8_wettest_96 : decode cX8_wettest 96 = .ok (.iinc 5 1, 3) := by decide +kernel
theorem dX8_wettest_99 : decode cX8_wettest 99 = .ok (.goto (-76), 3) := by decide +kernel
theorem dX8_wettest_102 : decode cX8_wettest 102 = .ok (.iload 4, 2) := by decide +kernel
theorem dX8_wettest_104 : decode cX8_wettest 104 = .ok (.iload_n 2, 1) := by decide +kernel
theorem dX8_wettest_105 : decode cX8_wettest 105 = .ok (.if_icmp .gt 26, 3) := by decide +kernel
theorem dX8_wettest_108 : decode cX8_wettest 108 = .ok (.iload 4, 2) := by decide +kernel
theorem dX8_wettest_110 : decode cX8_wettest 110 = .ok (.iload_n 2, 1) := by decide +kernel
theorem dX8_wettest_111 : decode cX8_wettest 111 = .ok (.if_icmp .ne 24, 3) := by decide +kernel
theorem dX8_wettest_114 : decode cX8_wettest 114 = .ok (.iload 4, 2) := by decide +kernel
theorem dX8_wettest_116 : decode cX8_wettest 116 = .ok (.ifCond .le 19, 3) := by decide +kernel
theorem dX8_wettest_119 : decode cX8_wettest 119 = .ok (.aload_n 0, 1) := by decide +kernel
theorem dX8_wettest_120 : decode cX8_wettest 120 = .ok (.getfield 13, 3) := by decide +kernel
theorem dX8_wettest_123 : decode cX8_wettest 123 = .ok (.iconst 5, 1) := by decide +kernel
theorem dX8_wettest_124 : decode cX8_wettest 124 = .ok (.iload_n 3, 1) := by decide +kernel
theorem dX8_wettest_125 : decode cX8_wettest 125 = .ok (.iadd, 1) := by decide +kernel
theorem dX8_wettest_126 : decode cX8_wettest 126 = .ok (.iaload, 1) := by decide +kernel
theorem dX8_wettest_127 : decode cX8_wettest 127 = .ok (.iload_n 1, 1) := by decide +kernel
theorem dX8_wettest_128 : decode cX8_wettest 128 = .ok (.if_icmp .ge 7, 3) := by decide +kernel
theorem dX8_wettest_131 : decode cX8_wettest 131 = .ok (.iconst 1, 1) := by decide +kernel
theorem dX8_wettest_132 : decode cX8_wettest 132 = .ok (.goto 4, 3) := by decide +kernel
theorem dX8_wettest_135 : decode cX8_wettest 135 = .ok (.iconst 0, 1) := by decide +kernel
theorem dX8_wettest_136 : decode cX8_wettest 136 = .ok (.istore 5, 2) := by decide +kernel
theorem dX8_wettest_138 : decode cX8_wettest 138 = .ok (.iload 5, 2) := by decide +kernel
theorem dX8_wettest_140 : decode cX8_wettest 140 = .ok (.ifCond .eq 14, 3) := by decide +kernel
theorem dX8_wettest_143 : decode cX8_wettest 143 = .ok (.aload_n 0, 1) := by decide +kernel
theorem dX8_wettest_144 : decode cX8_wettest 144 = .ok (.getfield 13, 3) := by decide +kernel
theorem dX8_wettest_147 : decode cX8_wettest 147 = .ok (.iconst 5, 1) := by decide +kernel
theorem dX8_wettest_148 : decode cX8_wettest 148 = .ok (.iload_n 3, 1) := by decide +kernel
theorem dX8_wettest_149 : decode cX8_wettest 149 = .ok (.iadd, 1) := by decide +kernel
theorem dX8_wettest_150 : decode cX8_wettest 150 = .ok (.iaload, 1) := by decide +kernel
theorem dX8_wettest_151 : decode cX8_wettest 151 = .ok (.goto 4, 3) := by decide +kernel
theorem dX8_wettest_154 : decode cX8_wettest 154 = .ok (.iload_n 1, 1) := by decide +kernel
theorem dX8_wettest_155 : decode cX8_wettest 155 = .ok (.istore_n 1, 1) := by decide +kernel
theorem dX8_wettest_156 : decode cX8_wettest 156 = .ok (.iload 5, 2) := by decide +kernel
theorem dX8_wettest_158 : decode cX8_wettest 158 = .ok (.ifCond .eq 8, 3) := by decide +kernel
theorem dX8_wettest_161 : decode cX8_wettest 161 = .ok (.iload 4, 2) := by decide +kernel
theorem dX8_wettest_163 : decode cX8_wettest 163 = .ok (.goto 4, 3) := by decide +kernel
theorem dX8_wettest_166 : decode cX8_wettest 166 = .ok (.iload_n 2, 1) := by decide +kernel
theorem dX8_wettest_167 : decode cX8_wettest 167 = .ok (.istore_n 2, 1) := by decide +kernel
theorem dX8_wettest_168 : decode cX8_wettest 168 = .ok (.iinc 3 1, 3) := by decide +kernel
theorem dX8_wettest_171 : decode cX8_wettest 171 = .ok (.goto (-164), 3) := by decide +kernel
theorem dX8_wettest_174 : decode cX8_wettest 174 = .ok (.iload_n 1, 1) := by decide +kernel
theorem dX8_wettest_175 : decode cX8_wettest 175 = .ok (.ireturn, 1) := by decide +kernel
theorem dX8_now_0 : decode cX8_now 0 = .ok (.iload_n 1, 1) := by decide +kernel
theorem dX8_now_1 : decode cX8_now 1 = .ok (.tableswitch 75 0 5 #[39, 47, 55, 60, 65, 70], 39) := by decide +kernel
theorem dX8_now_40 : decode cX8_now 40 = .ok (.aload_n 0, 1) := by decide +kernel
theorem dX8_now_41 : decode cX8_now 41 = .ok (.getfield 19, 3) := by decide +kernel
theorem dX8_now_44 : decode cX8_now 44 = .ok (.bipush 49, 2) := by decide +kernel
theorem dX8_now_46 : decode cX8_now 46 = .ok (.iaload, 1) := by decide +kernel
theorem dX8_now_47 : decode cX8_now 47 = .ok (.ireturn, 1) := by decide +kernel
theorem dX8_now_48 : decode cX8_now 48 = .ok (.aload_n 0, 1) := by decide +kernel
theorem dX8_now_49 : decode cX8_now 49 = .ok (.getfield 19, 3) := by decide +kernel
theorem dX8_now_52 : decode cX8_now 52 = .ok (.bipush 50, 2) := by decide +kernel
theorem dX8_now_54 : decode cX8_now 54 = .ok (.iaload, 1) := by decide +kernel
theorem dX8_now_55 : decode cX8_now 55 = .ok (.ireturn, 1) := by decide +kernel
theorem dX8_now_56 : decode cX8_now 56 = .ok (.aload_n 0, 1) := by decide +kernel
theorem dX8_now_57 : decode cX8_now 57 = .ok (.invokevirtual 107, 3) := by decide +kernel
theorem dX8_now_60 : decode cX8_now 60 = .ok (.ireturn, 1) := by decide +kernel
theorem dX8_now_61 : decode cX8_now 61 = .ok (.aload_n 0, 1) := by decide +kernel
theorem dX8_now_62 : decode cX8_now 62 = .ok (.invokevirtual 111, 3) := by decide +kernel
theorem dX8_now_65 : decode cX8_now 65 = .ok (.ireturn, 1) := by decide +kernel
theorem dX8_now_66 : decode cX8_now 66 = .ok (.aload_n 0, 1) := by decide +kernel
theorem dX8_now_67 : decode cX8_now 67 = .ok (.invokevirtual 114, 3) := by decide +kernel
theorem dX8_now_70 : decode cX8_now 70 = .ok (.ireturn, 1) := by decide +kernel
theorem dX8_now_71 : decode cX8_now 71 = .ok (.aload_n 0, 1) := by decide +kernel
theorem dX8_now_72 : decode cX8_now 72 = .ok (.getfield 92, 3) := by decide +kernel
theorem dX8_now_75 : decode cX8_now 75 = .ok (.ireturn, 1) := by decide +kernel
theorem dX8_now_76 : decode cX8_now 76 = .ok (.iconst (-1), 1) := by decide +kernel
theorem dX8_now_77 : decode cX8_now 77 = .ok (.ireturn, 1) := by decide +kernel
theorem dX8_keeps_0 : decode cX8_keeps 0 = .ok (.aload_n 0, 1) := by decide +kernel
theorem dX8_keeps_1 : decode cX8_keeps 1 = .ok (.getfield 92, 3) := by decide +kernel
theorem dX8_keeps_4 : decode cX8_keeps 4 = .ok (.bipush 10, 2) := by decide +kernel
theorem dX8_keeps_6 : decode cX8_keeps 6 = .ok (.if_icmp .ne 43, 3) := by decide +kernel
theorem dX8_keeps_9 : decode cX8_keeps 9 = .ok (.iconst 0, 1) := by decide +kernel
theorem dX8_keeps_10 : decode cX8_keeps 10 = .ok (.istore_n 1, 1) := by decide +kernel
theorem dX8_keeps_11 : decode cX8_keeps 11 = .ok (.iload_n 1, 1) := by decide +kernel
theorem dX8_keeps_12 : decode cX8_keeps 12 = .ok (.sipush 459, 3) := by decide +kernel
theorem dX8_keeps_15 : decode cX8_keeps 15 = .ok (.if_icmp .ge 24, 3) := by decide +kernel
theorem dX8_keeps_18 : decode cX8_keeps 18 = .ok (.aload_n 0, 1) := by decide +kernel
theorem dX8_keeps_19 : decode cX8_keeps 19 = .ok (.getfield 22, 3) := by decide +kernel
theorem dX8_keeps_22 : decode cX8_keeps 22 = .ok (.iload_n 1, 1) := by decide +kernel
theorem dX8_keeps_23 : decode cX8_keeps 23 = .ok (.aload_n 0, 1) := by decide +kernel
theorem dX8_keeps_24 : decode cX8_keeps 24 = .ok (.getfield 22, 3) := by decide +kernel
theorem dX8_keeps_27 : decode cX8_keeps 27 = .ok (.iload_n 1, 1) := by decide +kernel
theorem dX8_keeps_28 : decode cX8_keeps 28 = .ok (.bipush 51, 2) := by decide +kernel
theorem dX8_keeps_30 : decode cX8_keeps 30 = .ok (.iadd, 1) := by decide +kernel
theorem dX8_keeps_31 : decode cX8_keeps 31 = .ok (.iaload, 1) := by decide +kernel
theorem dX8_keeps_32 : decode cX8_keeps 32 = .ok (.iastore, 1) := by decide +kernel
theorem dX8_keeps_33 : decode cX8_keeps 33 = .ok (.iinc 1 1, 3) := by decide +kernel
theorem dX8_keeps_36 : decode cX8_keeps 36 = .ok (.goto (-25), 3) := by decide +kernel
theorem dX8_keeps_39 : decode cX8_keeps 39 = .ok (.aload_n 0, 1) := by decide +kernel
theorem dX8_keeps_40 : decode cX8_keeps 40 = .ok (.dup, 1) := by decide +kernel
theorem dX8_keeps_41 : decode cX8_keeps 41 = .ok (.getfield 92, 3) := by decide +kernel
theorem dX8_keeps_44 : decode cX8_keeps 44 = .ok (.iconst 1, 1) := by decide +kernel
theorem dX8_keeps_45 : decode cX8_keeps 45 = .ok (.isub, 1) := by decide +kernel
theorem dX8_keeps_46 : decode cX8_keeps 46 = .ok (.putfield 92, 3) := by decide +kernel
theorem dX8_keeps_49 : decode cX8_keeps 49 = .ok (.iconst 0, 1) := by decide +kernel
theorem dX8_keeps_50 : decode cX8_keeps 50 = .ok (.istore_n 1, 1) := by decide +kernel
theorem dX8_keeps_51 : decode cX8_keeps 51 = .ok (.iload_n 1, 1) := by decide +kernel
theorem dX8_keeps_52 : decode cX8_keeps 52 = .ok (.bipush 51, 2) := by decide +kernel
theorem dX8_keeps_54 : decode cX8_keeps 54 = .ok (.if_icmp .ge 29, 3) := by decide +kernel
theorem dX8_keeps_57 : decode cX8_keeps 57 = .ok (.aload_n 0, 1) := by decide +kernel
theorem dX8_keeps_58 : decode cX8_keeps 58 = .ok (.getfield 22, 3) := by decide +kernel
theorem dX8_keeps_61 : decode cX8_keeps 61 = .ok (.bipush 51, 2) := by decide +kernel
theorem dX8_keeps_63 : decode cX8_keeps 63 = .ok (.aload_n 0, 1) := by decide +kernel
theorem dX8_keeps_64 : decode cX8_keeps 64 = .ok (.getfield 92, 3) := by decide +kernel
theorem dX8_keeps_67 : decode cX8_keeps 67 = .ok (.imul, 1) := by decide +kernel
theorem dX8_keeps_68 : decode cX8_keeps 68 = .ok (.iload_n 1, 1) := by decide +kernel
theorem dX8_keeps_69 : decode cX8_keeps 69 = .ok (.iadd, 1) := by decide +kernel
theorem dX8_keeps_70 : decode cX8_keeps 70 = .ok (.aload_n 0, 1) := by decide +kernel
theorem dX8_keeps_71 : decode cX8_keeps 71 = .ok (.getfield 19, 3) := by decide +kernel
theorem dX8_keeps_74 : decode cX8_keeps 74 = .ok (.iload_n 1, 1) := by decide +kernel
theorem dX8_keeps_75 : decode cX8_keeps 75 = .ok (.iaload, 1) := by decide +kernel
theorem dX8_keeps_76 : decode cX8_keeps 76 = .ok (.iastore, 1) := by decide +kernel
theorem dX8_keeps_77 : decode cX8_keeps 77 = .ok (.iinc 1 1, 3) := by decide +kernel
theorem dX8_keeps_80 : decode cX8_keeps 80 = .ok (.goto (-29), 3) := by decide +kernel
theorem dX8_keeps_83 : decode cX8_keeps 83 = .ok (.aload_n 0, 1) := by decide +kernel
theorem dX8_keeps_84 : decode cX8_keeps 84 = .ok (.dup, 1) := by decide +kernel
theorem dX8_keeps_85 : decode cX8_keeps 85 = .ok (.getfield 92, 3) := by decide +kernel
theorem dX8_keeps_88 : decode cX8_keeps 88 = .ok (.iconst 1, 1) := by decide +kernel
theorem dX8_keeps_89 : decode cX8_keeps 89 = .ok (.iadd, 1) := by decide +kernel
theorem dX8_keeps_90 : decode cX8_keeps 90 = .ok (.putfield 92, 3) := by decide +kernel
theorem dX8_keeps_93 : decode cX8_keeps 93 = .ok (.return_, 1) := by decide +kernel
theorem dX8_takes_0 : decode cX8_takes 0 = .ok (.iconst (-1), 1) := by decide +kernel
theorem dX8_takes_1 : decode cX8_takes 1 = .ok (.istore_n 2, 1) := by decide +kernel
theorem dX8_takes_2 : decode cX8_takes 2 = .ok (.bipush 6, 2) := by decide +kernel
theorem dX8_takes_4 : decode cX8_takes 4 = .ok (.istore_n 3, 1) := by decide +kernel
theorem dX8_takes_5 : decode cX8_takes 5 = .ok (.iload_n 3, 1) := by decide +kernel
theorem dX8_takes_6 : decode cX8_takes 6 = .ok (.ifCond .lt 52, 3) := by decide +kernel
theorem dX8_takes_9 : decode cX8_takes 9 = .ok (.aload_n 0, 1) := by decide +kernel
theorem dX8_takes_10 : decode cX8_takes 10 = .ok (.getfield 19, 3) := by decide +kernel
theorem dX8_takes_13 : decode cX8_takes 13 = .ok (.bipush 7, 2) := by decide +kernel
theorem dX8_takes_15 : decode cX8_takes 15 = .ok (.iload_n 1, 1) := by decide +kernel
theorem dX8_takes_16 : decode cX8_takes 16 = .ok (.imul, 1) := by decide +kernel
theorem dX8_takes_17 : decode cX8_takes 17 = .ok (.iload_n 3, 1) := by decide +kernel
theorem dX8_takes_18 : decode cX8_takes 18 = .ok (.iadd, 1) := by decide +kernel
theorem dX8_takes_19 : decode cX8_takes 19 = .ok (.iaload, 1) := by decide +kernel
theorem dX8_takes_20 : decode cX8_takes 20 = .ok (.ifCond .le 30, 3) := by decide +kernel
theorem dX8_takes_23 : decode cX8_takes 23 = .ok (.iload_n 2, 1) := by decide +kernel
theorem dX8_takes_24 : decode cX8_takes 24 = .ok (.ifCond .lt 22, 3) := by decide +kernel
theorem dX8_takes_27 : decode cX8_takes 27 = .ok (.aload_n 0, 1) := by decide +kernel
theorem dX8_takes_28 : decode cX8_takes 28 = .ok (.getfield 13, 3) := by decide +kernel
theorem dX8_takes_31 : decode cX8_takes 31 = .ok (.iconst 5, 1) := by decide +kernel
theorem dX8_takes_32 : decode cX8_takes 32 = .ok (.iload_n 3, 1) := by decide +kernel
theorem dX8_takes_33 : decode cX8_takes 33 = .ok (.iadd, 1) := by decide +kernel
theorem dX8_takes_34 : decode cX8_takes 34 = .ok (.iaload, 1) := by decide +kernel
theorem dX8_takes_35 : decode cX8_takes 35 = .ok (.aload_n 0, 1) := by decide +kernel
theorem dX8_takes_36 : decode cX8_takes 36 = .ok (.getfield 13, 3) := by decide +kernel
theorem dX8_takes_39 : decode cX8_takes 39 = .ok (.iconst 5, 1) := by decide +kernel
theorem dX8_takes_40 : decode cX8_takes 40 = .ok (.iload_n 2, 1) := by decide +kernel
theorem dX8_takes_41 : decode cX8_takes 41 = .ok (.iadd, 1) := by decide +kernel
theorem dX8_takes_42 : decode cX8_takes 42 = .ok (.iaload, 1) := by decide +kernel
theorem dX8_takes_43 : decode cX8_takes 43 = .ok (.if_icmp .gt 7, 3) := by decide +kernel
theorem dX8_takes_46 : decode cX8_takes 46 = .ok (.iload_n 3, 1) := by decide +kernel
theorem dX8_takes_47 : decode cX8_takes 47 = .ok (.goto 4, 3) := by decide +kernel
theorem dX8_takes_50 : decode cX8_takes 50 = .ok (.iload_n 2, 1) := by decide +kernel
theorem dX8_takes_51 : decode cX8_takes 51 = .ok (.istore_n 2, 1) := by decide +kernel
theorem dX8_takes_52 : decode cX8_takes 52 = .ok (.iinc 3 (-1), 3) := by decide +kernel
theorem dX8_takes_55 : decode cX8_takes 55 = .ok (.goto (-50), 3) := by decide +kernel
theorem dX8_takes_58 : decode cX8_takes 58 = .ok (.iload_n 2, 1) := by decide +kernel
theorem dX8_takes_59 : decode cX8_takes 59 = .ok (.ifCond .lt 18, 3) := by decide +kernel
theorem dX8_takes_62 : decode cX8_takes 62 = .ok (.aload_n 0, 1) := by decide +kernel
theorem dX8_takes_63 : decode cX8_takes 63 = .ok (.getfield 19, 3) := by decide +kernel
theorem dX8_takes_66 : decode cX8_takes 66 = .ok (.bipush 7, 2) := by decide +kernel
theorem dX8_takes_68 : decode cX8_takes 68 = .ok (.iload_n 1, 1) := by decide +kernel
theorem dX8_takes_69 : decode cX8_takes 69 = .ok (.imul, 1) := by decide +kernel
theorem dX8_takes_70 : decode cX8_takes 70 = .ok (.iload_n 2, 1) := by decide +kernel
theorem dX8_takes_71 : decode cX8_takes 71 = .ok (.iadd, 1) := by decide +kernel
theorem dX8_takes_72 : decode cX8_takes 72 = .ok (.dup2, 1) := by decide +kernel
theorem dX8_takes_73 : decode cX8_takes 73 = .ok (.iaload, 1) := by decide +kernel
theorem dX8_takes_74 : decode cX8_takes 74 = .ok (.iconst 1, 1) := by decide +kernel
theorem dX8_takes_75 : decode cX8_takes 75 = .ok (.isub, 1) := by decide +kernel
theorem dX8_takes_76 : decode cX8_takes 76 = .ok (.iastore, 1) := by decide +kernel
theorem dX8_takes_77 : decode cX8_takes 77 = .ok (.iload_n 2, 1) := by decide +kernel
theorem dX8_takes_78 : decode cX8_takes 78 = .ok (.ireturn, 1) := by decide +kernel
theorem dX8_goes_0 : decode cX8_goes 0 = .ok (.iconst 0, 1) := by decide +kernel
theorem dX8_goes_1 : decode cX8_goes 1 = .ok (.istore 4, 2) := by decide +kernel
theorem dX8_goes_3 : decode cX8_goes 3 = .ok (.iload_n 2, 1) := by decide +kernel
theorem dX8_goes_4 : decode cX8_goes 4 = .ok (.ifCond .le 11, 3) := by decide +kernel
theorem dX8_goes_7 : decode cX8_goes 7 = .ok (.aload_n 0, 1) := by decide +kernel
theorem dX8_goes_8 : decode cX8_goes 8 = .ok (.iload_n 1, 1) := by decide +kernel
theorem dX8_goes_9 : decode cX8_goes 9 = .ok (.invokevirtual 117, 3) := by decide +kernel
theorem dX8_goes_12 : decode cX8_goes 12 = .ok (.goto 4, 3) := by decide +kernel
theorem dX8_goes_15 : decode cX8_goes 15 = .ok (.iconst (-1), 1) := by decide +kernel
theorem dX8_goes_16 : decode cX8_goes 16 = .ok (.istore 5, 2) := by decide +kernel
theorem dX8_goes_18 : decode cX8_goes 18 = .ok (.iload 5, 2) := by decide +kernel
theorem dX8_goes_20 : decode cX8_goes 20 = .ok (.ifCond .lt 60, 3) := by decide +kernel
theorem dX8_goes_23 : decode cX8_goes 23 = .ok (.iload_n 3, 1) := by decide +kernel
theorem dX8_goes_24 : decode cX8_goes 24 = .ok (.ifCond .lt 22, 3) := by decide +kernel
theorem dX8_goes_27 : decode cX8_goes 27 = .ok (.aload_n 0, 1) := by decide +kernel
theorem dX8_goes_28 : decode cX8_goes 28 = .ok (.getfield 19, 3) := by decide +kernel
theorem dX8_goes_31 : decode cX8_goes 31 = .ok (.bipush 7, 2) := by decide +kernel
theorem dX8_goes_33 : decode cX8_goes 33 = .ok (.iload_n 3, 1) := by decide +kernel
theorem dX8_goes_34 : decode cX8_goes 34 = .ok (.imul, 1) := by decide +kernel
theorem dX8_goes_35 : decode cX8_goes 35 = .ok (.iload 5, 2) := by decide +kernel
theorem dX8_goes_37 : decode cX8_goes 37 = .ok (.iadd, 1) := by decide +kernel
theorem dX8_goes_38 : decode cX8_goes 38 = .ok (.dup2, 1) := by decide +kernel
theorem dX8_goes_39 : decode cX8_goes 39 = .ok (.iaload, 1) := by decide +kernel
theorem dX8_goes_40 : decode cX8_goes 40 = .ok (.iconst 1, 1) := by decide +kernel
theorem dX8_goes_41 : decode cX8_goes 41 = .ok (.iadd, 1) := by decide +kernel
theorem dX8_goes_42 : decode cX8_goes 42 = .ok (.iastore, 1) := by decide +kernel
theorem dX8_goes_43 : decode cX8_goes 43 = .ok (.goto 14, 3) := by decide +kernel
theorem dX8_goes_46 : decode cX8_goes 46 = .ok (.aload_n 0, 1) := by decide +kernel
theorem dX8_goes_47 : decode cX8_goes 47 = .ok (.getfield 19, 3) := by decide +kernel
theorem dX8_goes_50 : decode cX8_goes 50 = .ok (.bipush 50, 2) := by decide +kernel
theorem dX8_goes_52 : decode cX8_goes 52 = .ok (.dup2, 1) := by decide +kernel
theorem dX8_goes_53 : decode cX8_goes 53 = .ok (.iaload, 1) := by decide +kernel
theorem dX8_goes_54 : decode cX8_goes 54 = .ok (.iconst 1, 1) := by decide +kernel
theorem dX8_goes_55 : decode cX8_goes 55 = .ok (.iadd, 1) := by decide +kernel
theorem dX8_goes_56 : decode cX8_goes 56 = .ok (.iastore, 1) := by decide +kernel
theorem dX8_goes_57 : decode cX8_goes 57 = .ok (.iinc 4 1, 3) := by decide +kernel
theorem dX8_goes_60 : decode cX8_goes 60 = .ok (.iload 4, 2) := by decide +kernel
theorem dX8_goes_62 : decode cX8_goes 62 = .ok (.iload_n 2, 1) := by decide +kernel
theorem dX8_goes_63 : decode cX8_goes 63 = .ok (.if_icmp .ge 11, 3) := by decide +kernel
theorem dX8_goes_66 : decode cX8_goes 66 = .ok (.aload_n 0, 1) := by decide +kernel
theorem dX8_goes_67 : decode cX8_goes 67 = .ok (.iload_n 1, 1) := by decide +kernel
theorem dX8_goes_68 : decode cX8_goes 68 = .ok (.invokevirtual 117, 3) := by decide +kernel
theorem dX8_goes_71 : decode cX8_goes 71 = .ok (.goto 4, 3) := by decide +kernel
theorem dX8_goes_74 : decode cX8_goes 74 = .ok (.iconst (-1), 1) := by decide +kernel
theorem dX8_goes_75 : decode cX8_goes 75 = .ok (.istore 5, 2) := by decide +kernel
theorem dX8_goes_77 : decode cX8_goes 77 = .ok (.goto (-59), 3) := by decide +kernel
theorem dX8_goes_80 : decode cX8_goes 80 = .ok (.iload 4, 2) := by decide +kernel
theorem dX8_goes_82 : decode cX8_goes 82 = .ok (.ireturn, 1) := by decide +kernel
theorem dX8_uses_0 : decode cX8_uses 0 = .ok (.aload_n 0, 1) := by decide +kernel
theorem dX8_uses_1 : decode cX8_uses 1 = .ok (.iload_n 1, 1) := by decide +kernel
theorem dX8_uses_2 : decode cX8_uses 2 = .ok (.invokevirtual 104, 3) := by decide +kernel
theorem dX8_uses_5 : decode cX8_uses 5 = .ok (.ifCond .eq 13, 3) := by decide +kernel
theorem dX8_uses_8 : decode cX8_uses 8 = .ok (.iload_n 2, 1) := by decide +kernel
theorem dX8_uses_9 : decode cX8_uses 9 = .ok (.iconst 1, 1) := by decide +kernel
theorem dX8_uses_10 : decode cX8_uses 10 = .ok (.bipush 99, 2) := by decide +kernel
theorem dX8_uses_12 : decode cX8_uses 12 = .ok (.invokestatic 51, 3) := by decide +kernel
theorem dX8_uses_15 : decode cX8_uses 15 = .ok (.ifCond .ne 5, 3) := by decide +kernel
theorem dX8_uses_18 : decode cX8_uses 18 = .ok (.iconst (-1), 1) := by decide +kernel
theorem dX8_uses_19 : decode cX8_uses 19 = .ok (.ireturn, 1) := by decide +kernel
theorem dX8_uses_20 : decode cX8_uses 20 = .ok (.aload_n 0, 1) := by decide +kernel
theorem dX8_uses_21 : decode cX8_uses 21 = .ok (.iload_n 1, 1) := by decide +kernel
theorem dX8_uses_22 : decode cX8_uses 22 = .ok (.invokevirtual 98, 3) := by decide +kernel
theorem dX8_uses_25 : decode cX8_uses 25 = .ok (.ifCond .ne 6, 3) := by decide +kernel
theorem dX8_uses_28 : decode cX8_uses 28 = .ok (.bipush (-2), 2) := by decide +kernel
theorem dX8_uses_30 : decode cX8_uses 30 = .ok (.ireturn, 1) := by decide +kernel
theorem dX8_uses_31 : decode cX8_uses 31 = .ok (.aload_n 0, 1) := by decide +kernel
theorem dX8_uses_32 : decode cX8_uses 32 = .ok (.invokevirtual 120, 3) := by decide +kernel
theorem dX8_uses_35 : decode cX8_uses 35 = .ok (.aload_n 0, 1) := by decide +kernel
theorem dX8_uses_36 : decode cX8_uses 36 = .ok (.iload_n 1, 1) := by decide +kernel
theorem dX8_uses_37 : decode cX8_uses 37 = .ok (.iload_n 2, 1) := by decide +kernel
theorem dX8_uses_38 : decode cX8_uses 38 = .ok (.iconst (-1), 1) := by decide +kernel
theorem dX8_uses_39 : decode cX8_uses 39 = .ok (.invokevirtual 123, 3) := by decide +kernel
theorem dX8_uses_42 : decode cX8_uses 42 = .ok (.ireturn, 1) := by decide +kernel
theorem dX8_pours_0 : decode cX8_pours 0 = .ok (.aload_n 0, 1) := by decide +kernel
theorem dX8_pours_1 : decode cX8_pours 1 = .ok (.iload_n 1, 1) := by decide +kernel
theorem dX8_pours_2 : decode cX8_pours 2 = .ok (.invokevirtual 104, 3) := by decide +kernel
theorem dX8_pours_5 : decode cX8_pours 5 = .ok (.ifCond .eq 26, 3) := by decide +kernel
theorem dX8_pours_8 : decode cX8_pours 8 = .ok (.aload_n 0, 1) := by decide +kernel
theorem dX8_pours_9 : decode cX8_pours 9 = .ok (.iload_n 2, 1) := by decide +kernel
theorem dX8_pours_10 : decode cX8_pours 10 = .ok (.invokevirtual 104, 3) := by decide +kernel
theorem dX8_pours_13 : decode cX8_pours 13 = .ok (.ifCond .eq 18, 3) := by decide +kernel
theorem dX8_pours_16 : decode cX8_pours 16 = .ok (.iload_n 1, 1) := by decide +kernel
theorem dX8_pours_17 : decode cX8_pours 17 = .ok (.iload_n 2, 1) := by decide +kernel
theorem dX8_pours_18 : decode cX8_pours 18 = .ok (.if_icmp .eq 13, 3) := by decide +kernel
theorem dX8_pours_21 : decode cX8_pours 21 = .ok (.iload_n 3, 1) := by decide +kernel
theorem dX8_pours_22 : decode cX8_pours 22 = .ok (.iconst 1, 1) := by decide +kernel
theorem dX8_pours_23 : decode cX8_pours 23 = .ok (.bipush 99, 2) := by decide +kernel
theorem dX8_pours_25 : decode cX8_pours 25 = .ok (.invokestatic 51, 3) := by decide +kernel
theorem dX8_pours_28 : decode cX8_pours 28 = .ok (.ifCond .ne 5, 3) := by decide +kernel
theorem dX8_pours_31 : decode cX8_pours 31 = .ok (.iconst (-1), 1) := by decide +kernel
theorem dX8_pours_32 : decode cX8_pours 32 = .ok (.ireturn, 1) := by decide +kernel
theorem dX8_pours_33 : decode cX8_pours 33 = .ok (.aload_n 0, 1) := by decide +kernel
theorem dX8_pours_34 : decode cX8_pours 34 = .ok (.iload_n 1, 1) := by decide +kernel
theorem dX8_pours_35 : decode cX8_pours 35 = .ok (.invokevirtual 98, 3) := by decide +kernel
theorem dX8_pours_38 : decode cX8_pours 38 = .ok (.ifCond .ne 6, 3) := by decide +kernel
theorem dX8_pours_41 : decode cX8_pours 41 = .ok (.bipush (-2), 2) := by decide +kernel
theorem dX8_pours_43 : decode cX8_pours 43 = .ok (.ireturn, 1) := by decide +kernel
theorem dX8_pours_44 : decode cX8_pours 44 = .ok (.aload_n 0, 1) := by decide +kernel
theorem dX8_pours_45 : decode cX8_pours 45 = .ok (.invokevirtual 120, 3) := by decide +kernel
theorem dX8_pours_48 : decode cX8_pours 48 = .ok (.aload_n 0, 1) := by decide +kernel
theorem dX8_pours_49 : decode cX8_pours 49 = .ok (.iload_n 1, 1) := by decide +kernel
theorem dX8_pours_50 : decode cX8_pours 50 = .ok (.iload_n 3, 1) := by decide +kernel
theorem dX8_pours_51 : decode cX8_pours 51 = .ok (.iload_n 2, 1) := by decide +kernel
theorem dX8_pours_52 : decode cX8_pours 52 = .ok (.invokevirtual 123, 3) := by decide +kernel
theorem dX8_pours_55 : decode cX8_pours 55 = .ok (.ireturn, 1) := by decide +kernel
theorem dX8_springs_0 : decode cX8_springs 0 = .ok (.iconst 0, 1) := by decide +kernel
theorem dX8_springs_1 : decode cX8_springs 1 = .ok (.istore_n 1, 1) := by decide +kernel
theorem dX8_springs_2 : decode cX8_springs 2 = .ok (.iconst 0, 1) := by decide +kernel
theorem dX8_springs_3 : decode cX8_springs 3 = .ok (.istore_n 2, 1) := by decide +kernel
theorem dX8_springs_4 : decode cX8_springs 4 = .ok (.iload_n 2, 1) := by decide +kernel
theorem dX8_springs_5 : decode cX8_springs 5 = .ok (.aload_n 0, 1) := by decide +kernel
theorem dX8_springs_6 : decode cX8_springs 6 = .ok (.getfield 13, 3) := by decide +kernel
theorem dX8_springs_9 : decode cX8_springs 9 = .ok (.iconst 0, 1) := by decide +kernel
theorem dX8_springs_10 : decode cX8_springs 10 = .ok (.iaload, 1) := by decide +kernel
theorem dX8_springs_11 : decode cX8_springs 11 = .ok (.if_icmp .ge 27, 3) := by decide +kernel
theorem dX8_springs_14 : decode cX8_springs 14 = .ok (.iload_n 1, 1) := by decide +kernel
theorem dX8_springs_15 : decode cX8_springs 15 = .ok (.aload_n 0, 1) := by decide +kernel
theorem dX8_springs_16 : decode cX8_springs 16 = .ok (.iload_n 2, 1) := by decide +kernel
theorem dX8_springs_17 : decode cX8_springs 17 = .ok (.aload_n 0, 1) := by decide +kernel
theorem dX8_springs_18 : decode cX8_springs 18 = .ok (.getfield 13, 3) := by decide +kernel
theorem dX8_springs_21 : decode cX8_springs 21 = .ok (.bipush 19, 2) := by decide +kernel
theorem dX8_springs_23 : decode cX8_springs 23 = .ok (.iload_n 2, 1) := by decide +kernel
theorem dX8_springs_24 : decode cX8_springs 24 = .ok (.iadd, 1) := by decide +kernel
theorem dX8_springs_25 : decode cX8_springs 25 = .ok (.iaload, 1) := by decide +kernel
theorem dX8_springs_26 : decode cX8_springs 26 = .ok (.iconst (-1), 1) := by decide +kernel
theorem dX8_springs_27 : decode cX8_springs 27 = .ok (.invokevirtual 123, 3) := by decide +kernel
theorem dX8_springs_30 : decode cX8_springs 30 = .ok (.iadd, 1) := by decide +kernel
theorem dX8_springs_31 : decode cX8_springs 31 = .ok (.istore_n 1, 1) := by decide +kernel
theorem dX8_springs_32 : decode cX8_springs 32 = .ok (.iinc 2 1, 3) := by decide +kernel
theorem dX8_springs_35 : decode cX8_springs 35 = .ok (.goto (-31), 3) := by decide +kernel
theorem dX8_springs_38 : decode cX8_springs 38 = .ok (.aload_n 0, 1) := by decide +kernel
theorem dX8_springs_39 : decode cX8_springs 39 = .ok (.getfield 19, 3) := by decide +kernel
theorem dX8_springs_42 : decode cX8_springs 42 = .ok (.bipush 49, 2) := by decide +kernel
theorem dX8_springs_44 : decode cX8_springs 44 = .ok (.dup2, 1) := by decide +kernel
theorem dX8_springs_45 : decode cX8_springs 45 = .ok (.iaload, 1) := by decide +kernel
theorem dX8_springs_46 : decode cX8_springs 46 = .ok (.iconst 1, 1) := by decide +kernel
theorem dX8_springs_47 : decode cX8_springs 47 = .ok (.iadd, 1) := by decide +kernel
theorem dX8_springs_48 : decode cX8_springs 48 = .ok (.iastore, 1) := by decide +kernel
theorem dX8_springs_49 : decode cX8_springs 49 = .ok (.iload_n 1, 1) := by decide +kernel
theorem dX8_springs_50 : decode cX8_springs 50 = .ok (.ireturn, 1) := by decide +kernel
theorem dX8_spring_0 : decode cX8_spring 0 = .ok (.aload_n 0, 1) := by decide +kernel
theorem dX8_spring_1 : decode cX8_spring 1 = .ok (.getfield 19, 3) := by decide +kernel
theorem dX8_spring_4 : decode cX8_spring 4 = .ok (.bipush 49, 2) := by decide +kernel
theorem dX8_spring_6 : decode cX8_spring 6 = .ok (.iaload, 1) := by decide +kernel
theorem dX8_spring_7 : decode cX8_spring 7 = .ok (.sipush 999, 3) := by decide +kernel
theorem dX8_spring_10 : decode cX8_spring 10 = .ok (.if_icmp .ne 6, 3) := by decide +kernel
theorem dX8_spring_13 : decode cX8_spring 13 = .ok (.bipush (-2), 2) := by decide +kernel
theorem dX8_spring_15 : decode cX8_spring 15 = .ok (.ireturn, 1) := by decide +kernel
theorem dX8_spring_16 : decode cX8_spring 16 = .ok (.aload_n 0, 1) := by decide +kernel
theorem dX8_spring_17 : decode cX8_spring 17 = .ok (.invokevirtual 120, 3) := by decide +kernel
theorem dX8_spring_20 : decode cX8_spring 20 = .ok (.aload_n 0, 1) := by decide +kernel
theorem dX8_spring_21 : decode cX8_spring 21 = .ok (.invokevirtual 127, 3) := by decide +kernel
theorem dX8_spring_24 : decode cX8_spring 24 = .ok (.ireturn, 1) := by decide +kernel
theorem dX8_splits_0 : decode cX8_splits 0 = .ok (.aload_n 0, 1) := by decide +kernel
theorem dX8_splits_1 : decode cX8_splits 1 = .ok (.iload_n 1, 1) := by decide +kernel
theorem dX8_splits_2 : decode cX8_splits 2 = .ok (.invokevirtual 104, 3) := by decide +kernel
theorem dX8_splits_5 : decode cX8_splits 5 = .ok (.ifCond .ne 5, 3) := by decide +kernel
theorem dX8_splits_8 : decode cX8_splits 8 = .ok (.iconst (-1), 1) := by decide +kernel
theorem dX8_splits_9 : decode cX8_splits 9 = .ok (.ireturn, 1) := by decide +kernel
theorem dX8_splits_10 : decode cX8_splits 10 = .ok (.aload_n 0, 1) := by decide +kernel
theorem dX8_splits_11 : decode cX8_splits 11 = .ok (.iload_n 1, 1) := by decide +kernel
theorem dX8_splits_12 : decode cX8_splits 12 = .ok (.invokevirtual 98, 3) := by decide +kernel
theorem dX8_splits_15 : decode cX8_splits 15 = .ok (.istore_n 2, 1) := by decide +kernel
theorem dX8_splits_16 : decode cX8_splits 16 = .ok (.iload_n 2, 1) := by decide +kernel
theorem dX8_splits_17 : decode cX8_splits 17 = .ok (.ifCond .ne 6, 3) := by decide +kernel
theorem dX8_splits_20 : decode cX8_splits 20 = .ok (.bipush (-2), 2) := by decide +kernel
theorem dX8_splits_22 : decode cX8_splits 22 = .ok (.ireturn, 1) := by decide +kernel
theorem dX8_splits_23 : decode cX8_splits 23 = .ok (.aload_n 0, 1) := by decide +kernel
theorem dX8_splits_24 : decode cX8_splits 24 = .ok (.invokevirtual 120, 3) := by decide +kernel
theorem dX8_splits_27 : decode cX8_splits 27 = .ok (.aload_n 0, 1) := by decide +kernel
theorem dX8_splits_28 : decode cX8_splits 28 = .ok (.iload_n 1, 1) := by decide +kernel
theorem dX8_splits_29 : decode cX8_splits 29 = .ok (.iload_n 2, 1) := by decide +kernel
theorem dX8_splits_30 : decode cX8_splits 30 = .ok (.iconst (-1), 1) := by decide +kernel
theorem dX8_splits_31 : decode cX8_splits 31 = .ok (.invokevirtual 123, 3) := by decide +kernel
theorem dX8_splits_34 : decode cX8_splits 34 = .ok (.ireturn, 1) := by decide +kernel
theorem dX8_undo_0 : decode cX8_undo 0 = .ok (.aload_n 0, 1) := by decide +kernel
theorem dX8_undo_1 : decode cX8_undo 1 = .ok (.getfield 92, 3) := by decide +kernel
theorem dX8_undo_4 : decode cX8_undo 4 = .ok (.ifCond .ne 6, 3) := by decide +kernel
theorem dX8_undo_7 : decode cX8_undo 7 = .ok (.bipush (-2), 2) := by decide +kernel
theorem dX8_undo_9 : decode cX8_undo 9 = .ok (.ireturn, 1) := by decide +kernel
end
section
theorem dX8_undo_10 : decode cX8_undo 10 = .ok (.aload_n 0, 1) := by decide +kernel
theorem dX8_undo_11 : decode cX8_undo 11 = .ok (.dup, 1) := by decide +kernel
theorem dX8_undo_12 : decode cX8_undo 12 = .ok (.getfield 92, 3) := by decide +kernel
theorem dX8_undo_15 : decode cX8_undo 15 = .ok (.iconst 1, 1) := by decide +kernel
theorem dX8_undo_16 : decode cX8_undo 16 = .ok (.isub, 1) := by decide +kernel
theorem dX8_undo_17 : decode cX8_undo 17 = .ok (.putfield 92, 3) := by decide +kernel
theorem dX8_undo_20 : decode cX8_undo 20 = .ok (.iconst 0, 1) := by decide +kernel
theorem dX8_undo_21 : decode cX8_undo 21 = .ok (.istore_n 1, 1) := by decide +kernel
theorem dX8_undo_22 : decode cX8_undo 22 = .ok (.iload_n 1, 1) := by decide +kernel
theorem dX8_undo_23 : decode cX8_undo 23 = .ok (.bipush 51, 2) := by decide +kernel
theorem dX8_undo_25 : decode cX8_undo 25 = .ok (.if_icmp .ge 29, 3) := by decide +kernel
theorem dX8_undo_28 : decode cX8_undo 28 = .ok (.aload_n 0, 1) := by decide +kernel
theorem dX8_undo_29 : decode cX8_undo 29 = .ok (.getfield 19, 3) := by decide +kernel
theorem dX8_undo_32 : decode cX8_undo 32 = .ok (.iload_n 1, 1) := by decide +kernel
theorem dX8_undo_33 : decode cX8_undo 33 = .ok (.aload_n 0, 1) := by decide +kernel
theorem dX8_undo_34 : decode cX8_undo 34 = .ok (.getfield 22, 3) := by decide +kernel
theorem dX8_undo_37 : decode cX8_undo 37 = .ok (.bipush 51, 2) := by decide +kernel
theorem dX8_undo_39 : decode cX8_undo 39 = .ok (.aload_n 0, 1) := by decide +kernel
theorem dX8_undo_40 : decode cX8_undo 40 = .ok (.getfield 92, 3) := by decide +kernel
theorem dX8_undo_43 : decode cX8_undo 43 = .ok (.imul, 1) := by decide +kernel
theorem dX8_undo_44 : decode cX8_undo 44 = .ok (.iload_n 1, 1) := by decide +kernel
theorem dX8_undo_45 : decode cX8_undo 45 = .ok (.iadd, 1) := by decide +kernel
theorem dX8_undo_46 : decode cX8_undo 46 = .ok (.iaload, 1) := by decide +kernel
theorem dX8_undo_47 : decode cX8_undo 47 = .ok (.iastore, 1) := by decide +kernel
theorem dX8_undo_48 : decode cX8_undo 48 = .ok (.iinc 1 1, 3) := by decide +kernel
theorem dX8_undo_51 : decode cX8_undo 51 = .ok (.goto (-29), 3) := by decide +kernel
theorem dX8_undo_54 : decode cX8_undo 54 = .ok (.aload_n 0, 1) := by decide +kernel
theorem dX8_undo_55 : decode cX8_undo 55 = .ok (.getfield 92, 3) := by decide +kernel
theorem dX8_undo_58 : decode cX8_undo 58 = .ok (.ireturn, 1) := by decide +kernel
theorem dX8_remembers_0 : decode cX8_remembers 0 = .ok (.iconst 0, 1) := by decide +kernel
theorem dX8_remembers_1 : decode cX8_remembers 1 = .ok (.istore_n 1, 1) := by decide +kernel
theorem dX8_remembers_2 : decode cX8_remembers 2 = .ok (.iload_n 1, 1) := by decide +kernel
theorem dX8_remembers_3 : decode cX8_remembers 3 = .ok (.bipush 51, 2) := by decide +kernel
theorem dX8_remembers_5 : decode cX8_remembers 5 = .ok (.if_icmp .ge 21, 3) := by decide +kernel
theorem dX8_remembers_8 : decode cX8_remembers 8 = .ok (.aload_n 0, 1) := by decide +kernel
theorem dX8_remembers_9 : decode cX8_remembers 9 = .ok (.getfield 38, 3) := by decide +kernel
theorem dX8_remembers_12 : decode cX8_remembers 12 = .ok (.iload_n 1, 1) := by decide +kernel
theorem dX8_remembers_13 : decode cX8_remembers 13 = .ok (.aload_n 0, 1) := by decide +kernel
theorem dX8_remembers_14 : decode cX8_remembers 14 = .ok (.getfield 19, 3) := by decide +kernel
theorem dX8_remembers_17 : decode cX8_remembers 17 = .ok (.iload_n 1, 1) := by decide +kernel
theorem dX8_remembers_18 : decode cX8_remembers 18 = .ok (.iaload, 1) := by decide +kernel
theorem dX8_remembers_19 : decode cX8_remembers 19 = .ok (.iastore, 1) := by decide +kernel
theorem dX8_remembers_20 : decode cX8_remembers 20 = .ok (.iinc 1 1, 3) := by decide +kernel
theorem dX8_remembers_23 : decode cX8_remembers 23 = .ok (.goto (-21), 3) := by decide +kernel
theorem dX8_remembers_26 : decode cX8_remembers 26 = .ok (.return_, 1) := by decide +kernel
theorem dX8_lets_0 : decode cX8_lets 0 = .ok (.iconst 0, 1) := by decide +kernel
theorem dX8_lets_1 : decode cX8_lets 1 = .ok (.istore_n 1, 1) := by decide +kernel
theorem dX8_lets_2 : decode cX8_lets 2 = .ok (.iload_n 1, 1) := by decide +kernel
theorem dX8_lets_3 : decode cX8_lets 3 = .ok (.bipush 51, 2) := by decide +kernel
theorem dX8_lets_5 : decode cX8_lets 5 = .ok (.if_icmp .ge 21, 3) := by decide +kernel
theorem dX8_lets_8 : decode cX8_lets 8 = .ok (.aload_n 0, 1) := by decide +kernel
theorem dX8_lets_9 : decode cX8_lets 9 = .ok (.getfield 19, 3) := by decide +kernel
theorem dX8_lets_12 : decode cX8_lets 12 = .ok (.iload_n 1, 1) := by decide +kernel
theorem dX8_lets_13 : decode cX8_lets 13 = .ok (.aload_n 0, 1) := by decide +kernel
theorem dX8_lets_14 : decode cX8_lets 14 = .ok (.getfield 38, 3) := by decide +kernel
theorem dX8_lets_17 : decode cX8_lets 17 = .ok (.iload_n 1, 1) := by decide +kernel
theorem dX8_lets_18 : decode cX8_lets 18 = .ok (.iaload, 1) := by decide +kernel
theorem dX8_lets_19 : decode cX8_lets 19 = .ok (.iastore, 1) := by decide +kernel
theorem dX8_lets_20 : decode cX8_lets 20 = .ok (.iinc 1 1, 3) := by decide +kernel
theorem dX8_lets_23 : decode cX8_lets 23 = .ok (.goto (-21), 3) := by decide +kernel
theorem dX8_lets_26 : decode cX8_lets 26 = .ok (.return_, 1) := by decide +kernel
theorem dX8_lasts_0 : decode cX8_lasts 0 = .ok (.aload_n 0, 1) := by decide +kernel
theorem dX8_lasts_1 : decode cX8_lasts 1 = .ok (.iload_n 1, 1) := by decide +kernel
theorem dX8_lasts_2 : decode cX8_lasts 2 = .ok (.invokevirtual 104, 3) := by decide +kernel
theorem dX8_lasts_5 : decode cX8_lasts 5 = .ok (.ifCond .ne 5, 3) := by decide +kernel
theorem dX8_lasts_8 : decode cX8_lasts 8 = .ok (.iconst (-1), 1) := by decide +kernel
theorem dX8_lasts_9 : decode cX8_lasts 9 = .ok (.ireturn, 1) := by decide +kernel
theorem dX8_lasts_10 : decode cX8_lasts 10 = .ok (.aload_n 0, 1) := by decide +kernel
theorem dX8_lasts_11 : decode cX8_lasts 11 = .ok (.invokevirtual 130, 3) := by decide +kernel
theorem dX8_lasts_14 : decode cX8_lasts 14 = .ok (.bipush (-9), 2) := by decide +kernel
theorem dX8_lasts_16 : decode cX8_lasts 16 = .ok (.istore_n 2, 1) := by decide +kernel
theorem dX8_lasts_17 : decode cX8_lasts 17 = .ok (.iconst 0, 1) := by decide +kernel
theorem dX8_lasts_18 : decode cX8_lasts 18 = .ok (.istore_n 3, 1) := by decide +kernel
theorem dX8_lasts_19 : decode cX8_lasts 19 = .ok (.iload_n 3, 1) := by decide +kernel
theorem dX8_lasts_20 : decode cX8_lasts 20 = .ok (.sipush 401, 3) := by decide +kernel
theorem dX8_lasts_23 : decode cX8_lasts 23 = .ok (.if_icmp .ge 35, 3) := by decide +kernel
theorem dX8_lasts_26 : decode cX8_lasts 26 = .ok (.iload_n 2, 1) := by decide +kernel
theorem dX8_lasts_27 : decode cX8_lasts 27 = .ok (.bipush (-9), 2) := by decide +kernel
theorem dX8_lasts_29 : decode cX8_lasts 29 = .ok (.if_icmp .ne 29, 3) := by decide +kernel
theorem dX8_lasts_32 : decode cX8_lasts 32 = .ok (.aload_n 0, 1) := by decide +kernel
theorem dX8_lasts_33 : decode cX8_lasts 33 = .ok (.iload_n 1, 1) := by decide +kernel
theorem dX8_lasts_34 : decode cX8_lasts 34 = .ok (.invokevirtual 101, 3) := by decide +kernel
theorem dX8_lasts_37 : decode cX8_lasts 37 = .ok (.ifCond .eq 8, 3) := by decide +kernel
theorem dX8_lasts_40 : decode cX8_lasts 40 = .ok (.bipush (-9), 2) := by decide +kernel
theorem dX8_lasts_42 : decode cX8_lasts 42 = .ok (.goto 4, 3) := by decide +kernel
theorem dX8_lasts_45 : decode cX8_lasts 45 = .ok (.iload_n 3, 1) := by decide +kernel
theorem dX8_lasts_46 : decode cX8_lasts 46 = .ok (.istore_n 2, 1) := by decide +kernel
theorem dX8_lasts_47 : decode cX8_lasts 47 = .ok (.aload_n 0, 1) := by decide +kernel
theorem dX8_lasts_48 : decode cX8_lasts 48 = .ok (.invokevirtual 127, 3) := by decide +kernel
theorem dX8_lasts_51 : decode cX8_lasts 51 = .ok (.pop, 1) := by decide +kernel
theorem dX8_lasts_52 : decode cX8_lasts 52 = .ok (.iinc 3 1, 3) := by decide +kernel
theorem dX8_lasts_55 : decode cX8_lasts 55 = .ok (.goto (-36), 3) := by decide +kernel
theorem dX8_lasts_58 : decode cX8_lasts 58 = .ok (.aload_n 0, 1) := by decide +kernel
theorem dX8_lasts_59 : decode cX8_lasts 59 = .ok (.invokevirtual 133, 3) := by decide +kernel
theorem dX8_lasts_62 : decode cX8_lasts 62 = .ok (.iload_n 2, 1) := by decide +kernel
theorem dX8_lasts_63 : decode cX8_lasts 63 = .ok (.ireturn, 1) := by decide +kernel
theorem dX8_inSprings_0 : decode cX8_inSprings 0 = .ok (.iload_n 1, 1) := by decide +kernel
theorem dX8_inSprings_1 : decode cX8_inSprings 1 = .ok (.iconst 0, 1) := by decide +kernel
theorem dX8_inSprings_2 : decode cX8_inSprings 2 = .ok (.sipush 200, 3) := by decide +kernel
theorem dX8_inSprings_5 : decode cX8_inSprings 5 = .ok (.invokestatic 51, 3) := by decide +kernel
theorem dX8_inSprings_8 : decode cX8_inSprings 8 = .ok (.ifCond .eq 16, 3) := by decide +kernel
theorem dX8_inSprings_11 : decode cX8_inSprings 11 = .ok (.iload_n 2, 1) := by decide +kernel
theorem dX8_inSprings_12 : decode cX8_inSprings 12 = .ok (.iconst (-1), 1) := by decide +kernel
theorem dX8_inSprings_13 : decode cX8_inSprings 13 = .ok (.if_icmp .eq 13, 3) := by decide +kernel
theorem dX8_inSprings_16 : decode cX8_inSprings 16 = .ok (.aload_n 0, 1) := by decide +kernel
theorem dX8_inSprings_17 : decode cX8_inSprings 17 = .ok (.iload_n 2, 1) := by decide +kernel
theorem dX8_inSprings_18 : decode cX8_inSprings 18 = .ok (.invokevirtual 104, 3) := by decide +kernel
theorem dX8_inSprings_21 : decode cX8_inSprings 21 = .ok (.ifCond .ne 5, 3) := by decide +kernel
theorem dX8_inSprings_24 : decode cX8_inSprings 24 = .ok (.iconst (-1), 1) := by decide +kernel
theorem dX8_inSprings_25 : decode cX8_inSprings 25 = .ok (.ireturn, 1) := by decide +kernel
theorem dX8_inSprings_26 : decode cX8_inSprings 26 = .ok (.aload_n 0, 1) := by decide +kernel
theorem dX8_inSprings_27 : decode cX8_inSprings 27 = .ok (.invokevirtual 130, 3) := by decide +kernel
theorem dX8_inSprings_30 : decode cX8_inSprings 30 = .ok (.iconst 0, 1) := by decide +kernel
theorem dX8_inSprings_31 : decode cX8_inSprings 31 = .ok (.istore_n 3, 1) := by decide +kernel
theorem dX8_inSprings_32 : decode cX8_inSprings 32 = .ok (.iload_n 3, 1) := by decide +kernel
theorem dX8_inSprings_33 : decode cX8_inSprings 33 = .ok (.iload_n 1, 1) := by decide +kernel
theorem dX8_inSprings_34 : decode cX8_inSprings 34 = .ok (.if_icmp .ge 14, 3) := by decide +kernel
theorem dX8_inSprings_37 : decode cX8_inSprings 37 = .ok (.aload_n 0, 1) := by decide +kernel
theorem dX8_inSprings_38 : decode cX8_inSprings 38 = .ok (.invokevirtual 127, 3) := by decide +kernel
theorem dX8_inSprings_41 : decode cX8_inSprings 41 = .ok (.pop, 1) := by decide +kernel
theorem dX8_inSprings_42 : decode cX8_inSprings 42 = .ok (.iinc 3 1, 3) := by decide +kernel
theorem dX8_inSprings_45 : decode cX8_inSprings 45 = .ok (.goto (-13), 3) := by decide +kernel
theorem dX8_inSprings_48 : decode cX8_inSprings 48 = .ok (.iload_n 2, 1) := by decide +kernel
theorem dX8_inSprings_49 : decode cX8_inSprings 49 = .ok (.ifCond .ge 13, 3) := by decide +kernel
theorem dX8_inSprings_52 : decode cX8_inSprings 52 = .ok (.aload_n 0, 1) := by decide +kernel
theorem dX8_inSprings_53 : decode cX8_inSprings 53 = .ok (.invokevirtual 111, 3) := by decide +kernel
theorem dX8_inSprings_56 : decode cX8_inSprings 56 = .ok (.invokestatic 136, 3) := by decide +kernel
theorem dX8_inSprings_59 : decode cX8_inSprings 59 = .ok (.goto 8, 3) := by decide +kernel
theorem dX8_inSprings_62 : decode cX8_inSprings 62 = .ok (.aload_n 0, 1) := by decide +kernel
theorem dX8_inSprings_63 : decode cX8_inSprings 63 = .ok (.iload_n 2, 1) := by decide +kernel
theorem dX8_inSprings_64 : decode cX8_inSprings 64 = .ok (.invokevirtual 98, 3) := by decide +kernel
theorem dX8_inSprings_67 : decode cX8_inSprings 67 = .ok (.istore_n 3, 1) := by decide +kernel
theorem dX8_inSprings_68 : decode cX8_inSprings 68 = .ok (.aload_n 0, 1) := by decide +kernel
theorem dX8_inSprings_69 : decode cX8_inSprings 69 = .ok (.invokevirtual 133, 3) := by decide +kernel
theorem dX8_inSprings_72 : decode cX8_inSprings 72 = .ok (.iload_n 3, 1) := by decide +kernel
theorem dX8_inSprings_73 : decode cX8_inSprings 73 = .ok (.ireturn, 1) := by decide +kernel
theorem dX8_fire_0 : decode cX8_fire 0 = .ok (.iload_n 1, 1) := by decide +kernel
theorem dX8_fire_1 : decode cX8_fire 1 = .ok (.iconst 1, 1) := by decide +kernel
theorem dX8_fire_2 : decode cX8_fire 2 = .ok (.sipush 400, 3) := by decide +kernel
theorem dX8_fire_5 : decode cX8_fire 5 = .ok (.invokestatic 51, 3) := by decide +kernel
theorem dX8_fire_8 : decode cX8_fire 8 = .ok (.ifCond .eq 12, 3) := by decide +kernel
theorem dX8_fire_11 : decode cX8_fire 11 = .ok (.iload_n 2, 1) := by decide +kernel
theorem dX8_fire_12 : decode cX8_fire 12 = .ok (.iconst 0, 1) := by decide +kernel
theorem dX8_fire_13 : decode cX8_fire 13 = .ok (.iconst 1, 1) := by decide +kernel
theorem dX8_fire_14 : decode cX8_fire 14 = .ok (.invokestatic 51, 3) := by decide +kernel
theorem dX8_fire_17 : decode cX8_fire 17 = .ok (.ifCond .ne 5, 3) := by decide +kernel
theorem dX8_fire_20 : decode cX8_fire 20 = .ok (.iconst (-1), 1) := by decide +kernel
theorem dX8_fire_21 : decode cX8_fire 21 = .ok (.ireturn, 1) := by decide +kernel
theorem dX8_fire_22 : decode cX8_fire 22 = .ok (.bipush (-9), 2) := by decide +kernel
theorem dX8_fire_24 : decode cX8_fire 24 = .ok (.istore_n 3, 1) := by decide +kernel
theorem dX8_fire_25 : decode cX8_fire 25 = .ok (.bipush (-9), 2) := by decide +kernel
theorem dX8_fire_27 : decode cX8_fire 27 = .ok (.istore 4, 2) := by decide +kernel
theorem dX8_fire_29 : decode cX8_fire 29 = .ok (.iconst 0, 1) := by decide +kernel
theorem dX8_fire_30 : decode cX8_fire 30 = .ok (.istore 5, 2) := by decide +kernel
theorem dX8_fire_32 : decode cX8_fire 32 = .ok (.iconst 0, 1) := by decide +kernel
theorem dX8_fire_33 : decode cX8_fire 33 = .ok (.istore 6, 2) := by decide +kernel
theorem dX8_fire_35 : decode cX8_fire 35 = .ok (.iload 6, 2) := by decide +kernel
theorem dX8_fire_37 : decode cX8_fire 37 = .ok (.iconst 1, 1) := by decide +kernel
theorem dX8_fire_38 : decode cX8_fire 38 = .ok (.aload_n 0, 1) := by decide +kernel
theorem dX8_fire_39 : decode cX8_fire 39 = .ok (.getfield 13, 3) := by decide +kernel
theorem dX8_fire_42 : decode cX8_fire 42 = .ok (.iconst 0, 1) := by decide +kernel
theorem dX8_fire_43 : decode cX8_fire 43 = .ok (.iaload, 1) := by decide +kernel
theorem dX8_fire_44 : decode cX8_fire 44 = .ok (.ishl, 1) := by decide +kernel
theorem dX8_fire_45 : decode cX8_fire 45 = .ok (.if_icmp .ge 152, 3) := by decide +kernel
theorem dX8_fire_48 : decode cX8_fire 48 = .ok (.iconst 0, 1) := by decide +kernel
theorem dX8_fire_49 : decode cX8_fire 49 = .ok (.istore 7, 2) := by decide +kernel
theorem dX8_fire_51 : decode cX8_fire 51 = .ok (.iconst 0, 1) := by decide +kernel
theorem dX8_fire_52 : decode cX8_fire 52 = .ok (.istore 8, 2) := by decide +kernel
theorem dX8_fire_54 : decode cX8_fire 54 = .ok (.iload 8, 2) := by decide +kernel
theorem dX8_fire_56 : decode cX8_fire 56 = .ok (.aload_n 0, 1) := by decide +kernel
theorem dX8_fire_57 : decode cX8_fire 57 = .ok (.getfield 13, 3) := by decide +kernel
theorem dX8_fire_60 : decode cX8_fire 60 = .ok (.iconst 0, 1) := by decide +kernel
theorem dX8_fire_61 : decode cX8_fire 61 = .ok (.iaload, 1) := by decide +kernel
theorem dX8_fire_62 : decode cX8_fire 62 = .ok (.if_icmp .ge 35, 3) := by decide +kernel
theorem dX8_fire_65 : decode cX8_fire 65 = .ok (.iload 7, 2) := by decide +kernel
theorem dX8_fire_67 : decode cX8_fire 67 = .ok (.iload 6, 2) := by decide +kernel
theorem dX8_fire_69 : decode cX8_fire 69 = .ok (.iload 8, 2) := by decide +kernel
theorem dX8_fire_71 : decode cX8_fire 71 = .ok (.ishr, 1) := by decide +kernel
theorem dX8_fire_72 : decode cX8_fire 72 = .ok (.iconst 1, 1) := by decide +kernel
theorem dX8_fire_73 : decode cX8_fire 73 = .ok (.iand, 1) := by decide +kernel
theorem dX8_fire_74 : decode cX8_fire 74 = .ok (.iconst 1, 1) := by decide +kernel
theorem dX8_fire_75 : decode cX8_fire 75 = .ok (.if_icmp .ne 12, 3) := by decide +kernel
theorem dX8_fire_78 : decode cX8_fire 78 = .ok (.aload_n 0, 1) := by decide +kernel
theorem dX8_fire_79 : decode cX8_fire 79 = .ok (.iload 8, 2) := by decide +kernel
theorem dX8_fire_81 : decode cX8_fire 81 = .ok (.invokevirtual 98, 3) := by decide +kernel
theorem dX8_fire_84 : decode cX8_fire 84 = .ok (.goto 4, 3) := by decide +kernel
theorem dX8_fire_87 : decode cX8_fire 87 = .ok (.iconst 0, 1) := by decide +kernel
theorem dX8_fire_88 : decode cX8_fire 88 = .ok (.iadd, 1) := by decide +kernel
theorem dX8_fire_89 : decode cX8_fire 89 = .ok (.istore 7, 2) := by decide +kernel
theorem dX8_fire_91 : decode cX8_fire 91 = .ok (.iinc 8 1, 3) := by decide +kernel
theorem dX8_fire_94 : decode cX8_fire 94 = .ok (.goto (-40), 3) := by decide +kernel
theorem dX8_fire_97 : decode cX8_fire 97 = .ok (.aload_n 0, 1) := by decide +kernel
theorem dX8_fire_98 : decode cX8_fire 98 = .ok (.invokevirtual 111, 3) := by decide +kernel
theorem dX8_fire_101 : decode cX8_fire 101 = .ok (.iload 6, 2) := by decide +kernel
theorem dX8_fire_103 : decode cX8_fire 103 = .ok (.iconst (-1), 1) := by decide +kernel
theorem dX8_fire_104 : decode cX8_fire 104 = .ok (.ixor, 1) := by decide +kernel
theorem dX8_fire_105 : decode cX8_fire 105 = .ok (.iand, 1) := by decide +kernel
theorem dX8_fire_106 : decode cX8_fire 106 = .ok (.invokestatic 136, 3) := by decide +kernel
theorem dX8_fire_109 : decode cX8_fire 109 = .ok (.istore 8, 2) := by decide +kernel
theorem dX8_fire_111 : decode cX8_fire 111 = .ok (.iload 7, 2) := by decide +kernel
theorem dX8_fire_113 : decode cX8_fire 113 = .ok (.iload_n 1, 1) := by decide +kernel
theorem dX8_fire_114 : decode cX8_fire 114 = .ok (.if_icmp .lt 34, 3) := by decide +kernel
theorem dX8_fire_117 : decode cX8_fire 117 = .ok (.iload_n 3, 1) := by decide +kernel
theorem dX8_fire_118 : decode cX8_fire 118 = .ok (.bipush (-9), 2) := by decide +kernel
theorem dX8_fire_120 : decode cX8_fire 120 = .ok (.if_icmp .eq 24, 3) := by decide +kernel
theorem dX8_fire_123 : decode cX8_fire 123 = .ok (.iload 8, 2) := by decide +kernel
theorem dX8_fire_125 : decode cX8_fire 125 = .ok (.iload 4, 2) := by decide +kernel
theorem dX8_fire_127 : decode cX8_fire 127 = .ok (.if_icmp .gt 17, 3) := by decide +kernel
theorem dX8_fire_130 : decode cX8_fire 130 = .ok (.iload 8, 2) := by decide +kernel
theorem dX8_fire_132 : decode cX8_fire 132 = .ok (.iload 4, 2) := by decide +kernel
theorem dX8_fire_134 : decode cX8_fire 134 = .ok (.if_icmp .ne 14, 3) := by decide +kernel
theorem dX8_fire_137 : decode cX8_fire 137 = .ok (.iload 7, 2) := by decide +kernel
theorem dX8_fire_139 : decode cX8_fire 139 = .ok (.iload 5, 2) := by decide +kernel
theorem dX8_fire_141 : decode cX8_fire 141 = .ok (.if_icmp .ge 7, 3) := by decide +kernel
theorem dX8_fire_144 : decode cX8_fire 144 = .ok (.iconst 1, 1) := by decide +kernel
theorem dX8_fire_145 : decode cX8_fire 145 = .ok (.goto 4, 3) := by decide +kernel
theorem dX8_fire_148 : decode cX8_fire 148 = .ok (.iconst 0, 1) := by decide +kernel
theorem dX8_fire_149 : decode cX8_fire 149 = .ok (.istore 9, 2) := by decide +kernel
theorem dX8_fire_151 : decode cX8_fire 151 = .ok (.iload 9, 2) := by decide +kernel
theorem dX8_fire_153 : decode cX8_fire 153 = .ok (.ifCond .eq 8, 3) := by decide +kernel
theorem dX8_fire_156 : decode cX8_fire 156 = .ok (.iload 6, 2) := by decide +kernel
theorem dX8_fire_158 : decode cX8_fire 158 = .ok (.goto 4, 3) := by decide +kernel
theorem dX8_fire_161 : decode cX8_fire 161 = .ok (.iload_n 3, 1) := by decide +kernel
theorem dX8_fire_162 : decode cX8_fire 162 = .ok (.istore_n 3, 1) := by decide +kernel
theorem dX8_fire_163 : decode cX8_fire 163 = .ok (.iload 9, 2) := by decide +kernel
theorem dX8_fire_165 : decode cX8_fire 165 = .ok (.ifCond .eq 8, 3) := by decide +kernel
theorem dX8_fire_168 : decode cX8_fire 168 = .ok (.iload 8, 2) := by decide +kernel
theorem dX8_fire_170 : decode cX8_fire 170 = .ok (.goto 5, 3) := by decide +kernel
theorem dX8_fire_173 : decode cX8_fire 173 = .ok (.iload 4, 2) := by decide +kernel
theorem dX8_fire_175 : decode cX8_fire 175 = .ok (.istore 4, 2) := by decide +kernel
theorem dX8_fire_177 : decode cX8_fire 177 = .ok (.iload 9, 2) := by decide +kernel
theorem dX8_fire_179 : decode cX8_fire 179 = .ok (.ifCond .eq 8, 3) := by decide +kernel
theorem dX8_fire_182 : decode cX8_fire 182 = .ok (.iload 7, 2) := by decide +kernel
theorem dX8_fire_184 : decode cX8_fire 184 = .ok (.goto 5, 3) := by decide +kernel
theorem dX8_fire_187 : decode cX8_fire 187 = .ok (.iload 5, 2) := by decide +kernel
theorem dX8_fire_189 : decode cX8_fire 189 = .ok (.istore 5, 2) := by decide +kernel
theorem dX8_fire_191 : decode cX8_fire 191 = .ok (.iinc 6 1, 3) := by decide +kernel
theorem dX8_fire_194 : decode cX8_fire 194 = .ok (.goto (-159), 3) := by decide +kernel
theorem dX8_fire_197 : decode cX8_fire 197 = .ok (.iload_n 2, 1) := by decide +kernel
theorem dX8_fire_198 : decode cX8_fire 198 = .ok (.ifCond .ne 7, 3) := by decide +kernel
theorem dX8_fire_201 : decode cX8_fire 201 = .ok (.iload_n 3, 1) := by decide +kernel
theorem dX8_fire_202 : decode cX8_fire 202 = .ok (.goto 5, 3) := by decide +kernel
theorem dX8_fire_205 : decode cX8_fire 205 = .ok (.iload 4, 2) := by decide +kernel
theorem dX8_fire_207 : decode cX8_fire 207 = .ok (.ireturn, 1) := by decide +kernel
theorem dX8_spoil_0 : decode cX8_spoil 0 = .ok (.aload_n 0, 1) := by decide +kernel
theorem dX8_spoil_1 : decode cX8_spoil 1 = .ok (.iload_n 1, 1) := by decide +kernel
theorem dX8_spoil_2 : decode cX8_spoil 2 = .ok (.invokevirtual 104, 3) := by decide +kernel
theorem dX8_spoil_5 : decode cX8_spoil 5 = .ok (.ifCond .ne 7, 3) := by decide +kernel
theorem dX8_spoil_8 : decode cX8_spoil 8 = .ok (.iconst (-1), 1) := by decide +kernel
theorem dX8_spoil_9 : decode cX8_spoil 9 = .ok (.goto 33, 3) := by decide +kernel
theorem dX8_spoil_12 : decode cX8_spoil 12 = .ok (.aload_n 0, 1) := by decide +kernel
theorem dX8_spoil_13 : decode cX8_spoil 13 = .ok (.iload_n 1, 1) := by decide +kernel
theorem dX8_spoil_14 : decode cX8_spoil 14 = .ok (.invokevirtual 101, 3) := by decide +kernel
theorem dX8_spoil_17 : decode cX8_spoil 17 = .ok (.ifCond .eq 24, 3) := by decide +kernel
theorem dX8_spoil_20 : decode cX8_spoil 20 = .ok (.aload_n 0, 1) := by decide +kernel
theorem dX8_spoil_21 : decode cX8_spoil 21 = .ok (.getfield 19, 3) := by decide +kernel
theorem dX8_spoil_24 : decode cX8_spoil 24 = .ok (.bipush 8, 2) := by decide +kernel
theorem dX8_spoil_26 : decode cX8_spoil 26 = .ok (.iload_n 1, 1) := by decide +kernel
theorem dX8_spoil_27 : decode cX8_spoil 27 = .ok (.imul, 1) := by decide +kernel
theorem dX8_spoil_28 : decode cX8_spoil 28 = .ok (.iaload, 1) := by decide +kernel
theorem dX8_spoil_29 : decode cX8_spoil 29 = .ok (.aload_n 0, 1) := by decide +kernel
theorem dX8_spoil_30 : decode cX8_spoil 30 = .ok (.getfield 13, 3) := by decide +kernel
theorem dX8_spoil_33 : decode cX8_spoil 33 = .ok (.iconst 1, 1) := by decide +kernel
theorem dX8_spoil_34 : decode cX8_spoil 34 = .ok (.iaload, 1) := by decide +kernel
theorem dX8_spoil_35 : decode cX8_spoil 35 = .ok (.isub, 1) := by decide +kernel
theorem dX8_spoil_36 : decode cX8_spoil 36 = .ok (.iconst 1, 1) := by decide +kernel
theorem dX8_spoil_37 : decode cX8_spoil 37 = .ok (.iadd, 1) := by decide +kernel
theorem dX8_spoil_38 : decode cX8_spoil 38 = .ok (.goto 4, 3) := by decide +kernel
theorem dX8_spoil_41 : decode cX8_spoil 41 = .ok (.iconst 0, 1) := by decide +kernel
theorem dX8_spoil_42 : decode cX8_spoil 42 = .ok (.ireturn, 1) := by decide +kernel
theorem dX8_mix_0 : decode cX8_mix 0 = .ok (.iload_n 1, 1) := by decide +kernel
theorem dX8_mix_1 : decode cX8_mix 1 = .ok (.iconst 1, 1) := by decide +kernel
theorem dX8_mix_2 : decode cX8_mix 2 = .ok (.bipush 60, 2) := by decide +kernel
theorem dX8_mix_4 : decode cX8_mix 4 = .ok (.invokestatic 51, 3) := by decide +kernel
theorem dX8_mix_7 : decode cX8_mix 7 = .ok (.ifCond .eq 23, 3) := by decide +kernel
theorem dX8_mix_10 : decode cX8_mix 10 = .ok (.iload_n 2, 1) := by decide +kernel
theorem dX8_mix_11 : decode cX8_mix 11 = .ok (.iconst 0, 1) := by decide +kernel
theorem dX8_mix_12 : decode cX8_mix 12 = .ok (.sipush 5940, 3) := by decide +kernel
theorem dX8_mix_15 : decode cX8_mix 15 = .ok (.invokestatic 51, 3) := by decide +kernel
theorem dX8_mix_18 : decode cX8_mix 18 = .ok (.ifCond .eq 12, 3) := by decide +kernel
theorem dX8_mix_21 : decode cX8_mix 21 = .ok (.iload_n 3, 1) := by decide +kernel
theorem dX8_mix_22 : decode cX8_mix 22 = .ok (.iconst 0, 1) := by decide +kernel
theorem dX8_mix_23 : decode cX8_mix 23 = .ok (.iconst 1, 1) := by decide +kernel
theorem dX8_mix_24 : decode cX8_mix 24 = .ok (.invokestatic 51, 3) := by decide +kernel
theorem dX8_mix_27 : decode cX8_mix 27 = .ok (.ifCond .ne 5, 3) := by decide +kernel
theorem dX8_mix_30 : decode cX8_mix 30 = .ok (.iconst (-1), 1) := by decide +kernel
theorem dX8_mix_31 : decode cX8_mix 31 = .ok (.ireturn, 1) := by decide +kernel
theorem dX8_mix_32 : decode cX8_mix 32 = .ok (.iconst 0, 1) := by decide +kernel
theorem dX8_mix_33 : decode cX8_mix 33 = .ok (.istore 4, 2) := by decide +kernel
theorem dX8_mix_35 : decode cX8_mix 35 = .ok (.bipush (-9), 2) := by decide +kernel
theorem dX8_mix_37 : decode cX8_mix 37 = .ok (.istore 5, 2) := by decide +kernel
theorem dX8_mix_39 : decode cX8_mix 39 = .ok (.aload_n 0, 1) := by decide +kernel
theorem dX8_mix_40 : decode cX8_mix 40 = .ok (.getfield 13, 3) := by decide +kernel
theorem dX8_mix_43 : decode cX8_mix 43 = .ok (.iconst 0, 1) := by decide +kernel
theorem dX8_mix_44 : decode cX8_mix 44 = .ok (.iaload, 1) := by decide +kernel
theorem dX8_mix_45 : decode cX8_mix 45 = .ok (.iconst 1, 1) := by decide +kernel
theorem dX8_mix_46 : decode cX8_mix 46 = .ok (.isub, 1) := by decide +kernel
theorem dX8_mix_47 : decode cX8_mix 47 = .ok (.istore 6, 2) := by decide +kernel
theorem dX8_mix_49 : decode cX8_mix 49 = .ok (.iload 6, 2) := by decide +kernel
theorem dX8_mix_51 : decode cX8_mix 51 = .ok (.ifCond .lt 149, 3) := by decide +kernel
theorem dX8_mix_54 : decode cX8_mix 54 = .ok (.aload_n 0, 1) := by decide +kernel
theorem dX8_mix_55 : decode cX8_mix 55 = .ok (.getfield 13, 3) := by decide +kernel
theorem dX8_mix_58 : decode cX8_mix 58 = .ok (.iconst 0, 1) := by decide +kernel
theorem dX8_mix_59 : decode cX8_mix 59 = .ok (.iaload, 1) := by decide +kernel
theorem dX8_mix_60 : decode cX8_mix 60 = .ok (.iconst 1, 1) := by decide +kernel
theorem dX8_mix_61 : decode cX8_mix 61 = .ok (.isub, 1) := by decide +kernel
theorem dX8_mix_62 : decode cX8_mix 62 = .ok (.istore 7, 2) := by decide +kernel
theorem dX8_mix_64 : decode cX8_mix 64 = .ok (.iload 7, 2) := by decide +kernel
theorem dX8_mix_66 : decode cX8_mix 66 = .ok (.iload 6, 2) := by decide +kernel
theorem dX8_mix_68 : decode cX8_mix 68 = .ok (.if_icmp .le 126, 3) := by decide +kernel
theorem dX8_mix_71 : decode cX8_mix 71 = .ok (.iload_n 1, 1) := by decide +kernel
theorem dX8_mix_72 : decode cX8_mix 72 = .ok (.iconst 1, 1) := by decide +kernel
theorem dX8_mix_73 : decode cX8_mix 73 = .ok (.isub, 1) := by decide +kernel
theorem dX8_mix_74 : decode cX8_mix 74 = .ok (.istore 8, 2) := by decide +kernel
theorem dX8_mix_76 : decode cX8_mix 76 = .ok (.iload 8, 2) := by decide +kernel
theorem dX8_mix_78 : decode cX8_mix 78 = .ok (.ifCond .le 110, 3) := by decide +kernel
theorem dX8_mix_81 : decode cX8_mix 81 = .ok (.aload_n 0, 1) := by decide +kernel
theorem dX8_mix_82 : decode cX8_mix 82 = .ok (.getfield 13, 3) := by decide +kernel
theorem dX8_mix_85 : decode cX8_mix 85 = .ok (.iconst 5, 1) := by decide +kernel
theorem dX8_mix_86 : decode cX8_mix 86 = .ok (.iload 6, 2) := by decide +kernel
theorem dX8_mix_88 : decode cX8_mix 88 = .ok (.iadd, 1) := by decide +kernel
theorem dX8_mix_89 : decode cX8_mix 89 = .ok (.iaload, 1) := by decide +kernel
theorem dX8_mix_90 : decode cX8_mix 90 = .ok (.aload_n 0, 1) := by decide +kernel
theorem dX8_mix_91 : decode cX8_mix 91 = .ok (.getfield 13, 3) := by decide +kernel
theorem dX8_mix_94 : decode cX8_mix 94 = .ok (.iconst 5, 1) := by decide +kernel
theorem dX8_mix_95 : decode cX8_mix 95 = .ok (.iload 7, 2) := by decide +kernel
theorem dX8_mix_97 : decode cX8_mix 97 = .ok (.iadd, 1) := by decide +kernel
theorem dX8_mix_98 : decode cX8_mix 98 = .ok (.iaload, 1) := by decide +kernel
theorem dX8_mix_99 : decode cX8_mix 99 = .ok (.if_icmp .eq 38, 3) := by decide +kernel
theorem dX8_mix_102 : decode cX8_mix 102 = .ok (.iload 8, 2) := by decide +kernel
theorem dX8_mix_104 : decode cX8_mix 104 = .ok (.aload_n 0, 1) := by decide +kernel
theorem dX8_mix_105 : decode cX8_mix 105 = .ok (.getfield 13, 3) := by decide +kernel
theorem dX8_mix_108 : decode cX8_mix 108 = .ok (.iconst 5, 1) := by decide +kernel
theorem dX8_mix_109 : decode cX8_mix 109 = .ok (.iload 6, 2) := by decide +kernel
theorem dX8_mix_111 : decode cX8_mix 111 = .ok (.iadd, 1) := by decide +kernel
theorem dX8_mix_112 : decode cX8_mix 112 = .ok (.iaload, 1) := by decide +kernel
theorem dX8_mix_113 : decode cX8_mix 113 = .ok (.imul, 1) := by decide +kernel
theorem dX8_mix_114 : decode cX8_mix 114 = .ok (.iload_n 1, 1) := by decide +kernel
theorem dX8_mix_115 : decode cX8_mix 115 = .ok (.iload 8, 2) := by decide +kernel
theorem dX8_mix_117 : decode cX8_mix 117 = .ok (.isub, 1) := by decide +kernel
theorem dX8_mix_118 : decode cX8_mix 118 = .ok (.aload_n 0, 1) := by decide +kernel
theorem dX8_mix_119 : decode cX8_mix 119 = .ok (.getfield 13, 3) := by decide +kernel
theorem dX8_mix_122 : decode cX8_mix 122 = .ok (.iconst 5, 1) := by decide +kernel
theorem dX8_mix_123 : decode cX8_mix 123 = .ok (.iload 7, 2) := by decide +kernel
theorem dX8_mix_125 : decode cX8_mix 125 = .ok (.iadd, 1) := by decide +kernel
theorem dX8_mix_126 : decode cX8_mix 126 = .ok (.iaload, 1) := by decide +kernel
theorem dX8_mix_127 : decode cX8_mix 127 = .ok (.imul, 1) := by decide +kernel
theorem dX8_mix_128 : decode cX8_mix 128 = .ok (.iadd, 1) := by decide +kernel
theorem dX8_mix_129 : decode cX8_mix 129 = .ok (.iload_n 2, 1) := by decide +kernel
theorem dX8_mix_130 : decode cX8_mix 130 = .ok (.if_icmp .ne 7, 3) := by decide +kernel
theorem dX8_mix_133 : decode cX8_mix 133 = .ok (.iconst 1, 1) := by decide +kernel
theorem dX8_mix_134 : decode cX8_mix 134 = .ok (.goto 4, 3) := by decide +kernel
theorem dX8_mix_137 : decode cX8_mix 137 = .ok (.iconst 0, 1) := by decide +kernel
theorem dX8_mix_138 : decode cX8_mix 138 = .ok (.istore 9, 2) := by decide +kernel
theorem dX8_mix_140 : decode cX8_mix 140 = .ok (.iload 4, 2) := by decide +kernel
theorem dX8_mix_142 : decode cX8_mix 142 = .ok (.iload 9, 2) := by decide +kernel
theorem dX8_mix_144 : decode cX8_mix 144 = .ok (.ifCond .eq 7, 3) := by decide +kernel
theorem dX8_mix_147 : decode cX8_mix 147 = .ok (.iconst 1, 1) := by decide +kernel
theorem dX8_mix_148 : decode cX8_mix 148 = .ok (.goto 4, 3) := by decide +kernel
theorem dX8_mix_151 : decode cX8_mix 151 = .ok (.iconst 0, 1) := by decide +kernel
theorem dX8_mix_152 : decode cX8_mix 152 = .ok (.iadd, 1) := by decide +kernel
theorem dX8_mix_153 : decode cX8_mix 153 = .ok (.istore 4, 2) := by decide +kernel
theorem dX8_mix_155 : decode cX8_mix 155 = .ok (.iload 9, 2) := by decide +kernel
theorem dX8_mix_157 : decode cX8_mix 157 = .ok (.ifCond .eq 21, 3) := by decide +kernel
theorem dX8_mix_160 : decode cX8_mix 160 = .ok (.sipush 1000, 3) := by decide +kernel
theorem dX8_mix_163 : decode cX8_mix 163 = .ok (.iload 6, 2) := by decide +kernel
theorem dX8_mix_165 : decode cX8_mix 165 = .ok (.imul, 1) := by decide +kernel
theorem dX8_mix_166 : decode cX8_mix 166 = .ok (.bipush 100, 2) := by decide +kernel
theorem dX8_mix_168 : decode cX8_mix 168 = .ok (.iload 7, 2) := by decide +kernel
theorem dX8_mix_170 : decode cX8_mix 170 = .ok (.imul, 1) := by decide +kernel
theorem dX8_mix_171 : decode cX8_mix 171 = .ok (.iadd, 1) := by decide +kernel
theorem dX8_mix_172 : decode cX8_mix 172 = .ok (.iload 8, 2) := by decide +kernel
theorem dX8_mix_174 : decode cX8_mix 174 = .ok (.iadd, 1) := by decide +kernel
theorem dX8_mix_175 : decode cX8_mix 175 = .ok (.goto 5, 3) := by decide +kernel
theorem dX8_mix_178 : decode cX8_mix 178 = .ok (.iload 5, 2) := by decide +kernel
theorem dX8_mix_180 : decode cX8_mix 180 = .ok (.istore 5, 2) := by decide +kernel
theorem dX8_mix_182 : decode cX8_mix 182 = .ok (.iinc 8 (-1), 3) := by decide +kernel
theorem dX8_mix_185 : decode cX8_mix 185 = .ok (.goto (-109), 3) := by decide +kernel
theorem dX8_mix_188 : decode cX8_mix 188 = .ok (.iinc 7 (-1), 3) := by decide +kernel
theorem dX8_mix_191 : decode cX8_mix 191 = .ok (.goto (-127), 3) := by decide +kernel
theorem dX8_mix_194 : decode cX8_mix 194 = .ok (.iinc 6 (-1), 3) := by decide +kernel
theorem dX8_mix_197 : decode cX8_mix 197 = .ok (.goto (-148), 3) := by decide +kernel
theorem dX8_mix_200 : decode cX8_mix 200 = .ok (.iload_n 3, 1) := by decide +kernel
theorem dX8_mix_201 : decode cX8_mix 201 = .ok (.ifCond .ne 8, 3) := by decide +kernel
theorem dX8_mix_204 : decode cX8_mix 204 = .ok (.iload 4, 2) := by decide +kernel
theorem dX8_mix_206 : decode cX8_mix 206 = .ok (.goto 5, 3) := by decide +kernel
theorem dX8_mix_209 : decode cX8_mix 209 = .ok (.iload 5, 2) := by decide +kernel
theorem dX8_mix_211 : decode cX8_mix 211 = .ok (.ireturn, 1) := by decide +kernel
theorem dX8_levels_0 : decode cX8_levels 0 = .ok (.iload_n 1, 1) := by decide +kernel
theorem dX8_levels_1 : decode cX8_levels 1 = .ok (.iconst 0, 1) := by decide +kernel
theorem dX8_levels_2 : decode cX8_levels 2 = .ok (.bipush 60, 2) := by decide +kernel
theorem dX8_levels_4 : decode cX8_levels 4 = .ok (.invokestatic 51, 3) := by decide +kernel
theorem dX8_levels_7 : decode cX8_levels 7 = .ok (.ifCond .eq 22, 3) := by decide +kernel
theorem dX8_levels_10 : decode cX8_levels 10 = .ok (.aload_n 0, 1) := by decide +kernel
theorem dX8_levels_11 : decode cX8_levels 11 = .ok (.iload_n 2, 1) := by decide +kernel
theorem dX8_levels_12 : decode cX8_levels 12 = .ok (.invokevirtual 104, 3) := by decide +kernel
theorem dX8_levels_15 : decode cX8_levels 15 = .ok (.ifCond .eq 14, 3) := by decide +kernel
theorem dX8_levels_18 : decode cX8_levels 18 = .ok (.iload_n 3, 1) := by decide +kernel
theorem dX8_levels_19 : decode cX8_levels 19 = .ok (.iconst 0, 1) := by decide +kernel
theorem dX8_levels_20 : decode cX8_levels 20 = .ok (.sipush 420, 3) := by decide +kernel
theorem dX8_levels_23 : decode cX8_levels 23 = .ok (.invokestatic 51, 3) := by decide +kernel
theorem dX8_levels_26 : decode cX8_levels 26 = .ok (.ifCond .ne 5, 3) := by decide +kernel
theorem dX8_levels_29 : decode cX8_levels 29 = .ok (.iconst (-1), 1) := by decide +kernel
theorem dX8_levels_30 : decode cX8_levels 30 = .ok (.ireturn, 1) := by decide +kernel
theorem dX8_levels_31 : decode cX8_levels 31 = .ok (.aload_n 0, 1) := by decide +kernel
theorem dX8_levels_32 : decode cX8_levels 32 = .ok (.getfield 95, 3) := by decide +kernel
theorem dX8_levels_35 : decode cX8_levels 35 = .ok (.iconst 5, 1) := by decide +kernel
theorem dX8_levels_36 : decode cX8_levels 36 = .ok (.if_icmp .ne 6, 3) := by decide +kernel
theorem dX8_levels_39 : decode cX8_levels 39 = .ok (.bipush (-3), 2) := by decide +kernel
theorem dX8_levels_41 : decode cX8_levels 41 = .ok (.ireturn, 1) := by decide +kernel
theorem dX8_levels_42 : decode cX8_levels 42 = .ok (.aload_n 0, 1) := by decide +kernel
theorem dX8_levels_43 : decode cX8_levels 43 = .ok (.getfield 32, 3) := by decide +kernel
theorem dX8_levels_46 : decode cX8_levels 46 = .ok (.aload_n 0, 1) := by decide +kernel
theorem dX8_levels_47 : decode cX8_levels 47 = .ok (.getfield 95, 3) := by decide +kernel
theorem dX8_levels_50 : decode cX8_levels 50 = .ok (.bipush 10, 2) := by decide +kernel
theorem dX8_levels_52 : decode cX8_levels 52 = .ok (.iload_n 1, 1) := by decide +kernel
theorem dX8_levels_53 : decode cX8_levels 53 = .ok (.imul, 1) := by decide +kernel
theorem dX8_levels_54 : decode cX8_levels 54 = .ok (.iload_n 2, 1) := by decide +kernel
theorem dX8_levels_55 : decode cX8_levels 55 = .ok (.iadd, 1) := by decide +kernel
theorem dX8_levels_56 : decode cX8_levels 56 = .ok (.iastore, 1) := by decide +kernel
theorem dX8_levels_57 : decode cX8_levels 57 = .ok (.aload_n 0, 1) := by decide +kernel
theorem dX8_levels_58 : decode cX8_levels 58 = .ok (.getfield 35, 3) := by decide +kernel
theorem dX8_levels_61 : decode cX8_levels 61 = .ok (.aload_n 0, 1) := by decide +kernel
theorem dX8_levels_62 : decode cX8_levels 62 = .ok (.getfield 95, 3) := by decide +kernel
theorem dX8_levels_65 : decode cX8_levels 65 = .ok (.iload_n 3, 1) := by decide +kernel
theorem dX8_levels_66 : decode cX8_levels 66 = .ok (.iastore, 1) := by decide +kernel
theorem dX8_levels_67 : decode cX8_levels 67 = .ok (.aload_n 0, 1) := by decide +kernel
theorem dX8_levels_68 : decode cX8_levels 68 = .ok (.dup, 1) := by decide +kernel
theorem dX8_levels_69 : decode cX8_levels 69 = .ok (.getfield 95, 3) := by decide +kernel
theorem dX8_levels_72 : decode cX8_levels 72 = .ok (.iconst 1, 1) := by decide +kernel
theorem dX8_levels_73 : decode cX8_levels 73 = .ok (.iadd, 1) := by decide +kernel
theorem dX8_levels_74 : decode cX8_levels 74 = .ok (.putfield 95, 3) := by decide +kernel
theorem dX8_levels_77 : decode cX8_levels 77 = .ok (.aload_n 0, 1) := by decide +kernel
theorem dX8_levels_78 : decode cX8_levels 78 = .ok (.getfield 95, 3) := by decide +kernel
theorem dX8_levels_81 : decode cX8_levels 81 = .ok (.ireturn, 1) := by decide +kernel
theorem dX8_forget_0 : decode cX8_forget 0 = .ok (.aload_n 0, 1) := by decide +kernel
theorem dX8_forget_1 : decode cX8_forget 1 = .ok (.getfield 95, 3) := by decide +kernel
theorem dX8_forget_4 : decode cX8_forget 4 = .ok (.istore_n 1, 1) := by decide +kernel
theorem dX8_forget_5 : decode cX8_forget 5 = .ok (.aload_n 0, 1) := by decide +kernel
theorem dX8_forget_6 : decode cX8_forget 6 = .ok (.iconst 0, 1) := by decide +kernel
theorem dX8_forget_7 : decode cX8_forget 7 = .ok (.putfield 95, 3) := by decide +kernel
theorem dX8_forget_10 : decode cX8_forget 10 = .ok (.iload_n 1, 1) := by decide +kernel
theorem dX8_forget_11 : decode cX8_forget 11 = .ok (.ireturn, 1) := by decide +kernel
theorem dX8_isSo_0 : decode cX8_isSo 0 = .ok (.iconst 1, 1) := by decide +kernel
theorem dX8_isSo_1 : decode cX8_isSo 1 = .ok (.istore_n 1, 1) := by decide +kernel
theorem dX8_isSo_2 : decode cX8_isSo 2 = .ok (.iconst 0, 1) := by decide +kernel
theorem dX8_isSo_3 : decode cX8_isSo 3 = .ok (.istore_n 2, 1) := by decide +kernel
theorem dX8_isSo_4 : decode cX8_isSo 4 = .ok (.iload_n 2, 1) := by decide +kernel
theorem dX8_isSo_5 : decode cX8_isSo 5 = .ok (.aload_n 0, 1) := by decide +kernel
theorem dX8_isSo_6 : decode cX8_isSo 6 = .ok (.getfield 95, 3) := by decide +kernel
theorem dX8_isSo_9 : decode cX8_isSo 9 = .ok (.if_icmp .ge 76, 3) := by decide +kernel
theorem dX8_isSo_12 : decode cX8_isSo 12 = .ok (.aload_n 0, 1) := by decide +kernel
theorem dX8_isSo_13 : decode cX8_isSo 13 = .ok (.getfield 32, 3) := by decide +kernel
theorem dX8_isSo_16 : decode cX8_isSo 16 = .ok (.iload_n 2, 1) := by decide +kernel
theorem dX8_isSo_17 : decode cX8_isSo 17 = .ok (.iaload, 1) := by decide +kernel
theorem dX8_isSo_18 : decode cX8_isSo 18 = .ok (.bipush 10, 2) := by decide +kernel
theorem dX8_isSo_20 : decode cX8_isSo 20 = .ok (.irem, 1) := by decide +kernel
theorem dX8_isSo_21 : decode cX8_isSo 21 = .ok (.istore_n 3, 1) := by decide +kernel
theorem dX8_isSo_22 : decode cX8_isSo 22 = .ok (.aload_n 0, 1) := by decide +kernel
theorem dX8_isSo_23 : decode cX8_isSo 23 = .ok (.iload_n 3, 1) := by decide +kernel
theorem dX8_isSo_24 : decode cX8_isSo 24 = .ok (.invokevirtual 98, 3) := by decide +kernel
theorem dX8_isSo_27 : decode cX8_isSo 27 = .ok (.aload_n 0, 1) := by decide +kernel
theorem dX8_isSo_28 : decode cX8_isSo 28 = .ok (.getfield 32, 3) := by decide +kernel
theorem dX8_isSo_31 : decode cX8_isSo 31 = .ok (.iload_n 2, 1) := by decide +kernel
theorem dX8_isSo_32 : decode cX8_isSo 32 = .ok (.iaload, 1) := by decide +kernel
theorem dX8_isSo_33 : decode cX8_isSo 33 = .ok (.bipush 10, 2) := by decide +kernel
theorem dX8_isSo_35 : decode cX8_isSo 35 = .ok (.idiv, 1) := by decide +kernel
theorem dX8_isSo_36 : decode cX8_isSo 36 = .ok (.aload_n 0, 1) := by decide +kernel
theorem dX8_isSo_37 : decode cX8_isSo 37 = .ok (.getfield 13, 3) := by decide +kernel
theorem dX8_isSo_40 : decode cX8_isSo 40 = .ok (.bipush 19, 2) := by decide +kernel
theorem dX8_isSo_42 : decode cX8_isSo 42 = .ok (.iload_n 3, 1) := by decide +kernel
theorem dX8_isSo_43 : decode cX8_isSo 43 = .ok (.iadd, 1) := by decide +kernel
theorem dX8_isSo_44 : decode cX8_isSo 44 = .ok (.iaload, 1) := by decide +kernel
theorem dX8_isSo_45 : decode cX8_isSo 45 = .ok (.imul, 1) := by decide +kernel
theorem dX8_isSo_46 : decode cX8_isSo 46 = .ok (.isub, 1) := by decide +kernel
theorem dX8_isSo_47 : decode cX8_isSo 47 = .ok (.istore 4, 2) := by decide +kernel
theorem dX8_isSo_49 : decode cX8_isSo 49 = .ok (.iload_n 1, 1) := by decide +kernel
theorem dX8_isSo_50 : decode cX8_isSo 50 = .ok (.ifCond .eq 27, 3) := by decide +kernel
theorem dX8_isSo_53 : decode cX8_isSo 53 = .ok (.iload 4, 2) := by decide +kernel
theorem dX8_isSo_55 : decode cX8_isSo 55 = .ok (.ifCond .ge 7, 3) := by decide +kernel
theorem dX8_isSo_58 : decode cX8_isSo 58 = .ok (.iconst 0, 1) := by decide +kernel
theorem dX8_isSo_59 : decode cX8_isSo 59 = .ok (.goto 5, 3) := by decide +kernel
theorem dX8_isSo_62 : decode cX8_isSo 62 = .ok (.iload 4, 2) := by decide +kernel
theorem dX8_isSo_64 : decode cX8_isSo 64 = .ok (.aload_n 0, 1) := by decide +kernel
theorem dX8_isSo_65 : decode cX8_isSo 65 = .ok (.getfield 35, 3) := by decide +kernel
theorem dX8_isSo_68 : decode cX8_isSo 68 = .ok (.iload_n 2, 1) := by decide +kernel
theorem dX8_isSo_69 : decode cX8_isSo 69 = .ok (.iaload, 1) := by decide +kernel
theorem dX8_isSo_70 : decode cX8_isSo 70 = .ok (.if_icmp .ne 7, 3) := by decide +kernel
theorem dX8_isSo_73 : decode cX8_isSo 73 = .ok (.iconst 1, 1) := by decide +kernel
theorem dX8_isSo_74 : decode cX8_isSo 74 = .ok (.goto 4, 3) := by decide +kernel
theorem dX8_isSo_77 : decode cX8_isSo 77 = .ok (.iconst 0, 1) := by decide +kernel
theorem dX8_isSo_78 : decode cX8_isSo 78 = .ok (.istore_n 1, 1) := by decide +kernel
theorem dX8_isSo_79 : decode cX8_isSo 79 = .ok (.iinc 2 1, 3) := by decide +kernel
theorem dX8_isSo_82 : decode cX8_isSo 82 = .ok (.goto (-78), 3) := by decide +kernel
theorem dX8_isSo_85 : decode cX8_isSo 85 = .ok (.iload_n 1, 1) := by decide +kernel
theorem dX8_isSo_86 : decode cX8_isSo 86 = .ok (.ireturn, 1) := by decide +kernel
theorem dX8_theft_0 : decode cX8_theft 0 = .ok (.iload_n 1, 1) := by decide +kernel
theorem dX8_theft_1 : decode cX8_theft 1 = .ok (.iconst 0, 1) := by decide +kernel
theorem dX8_theft_2 : decode cX8_theft 2 = .ok (.iconst 2, 1) := by decide +kernel
theorem dX8_theft_3 : decode cX8_theft 3 = .ok (.invokestatic 51, 3) := by decide +kernel
theorem dX8_theft_6 : decode cX8_theft 6 = .ok (.ifCond .ne 5, 3) := by decide +kernel
theorem dX8_theft_9 : decode cX8_theft 9 = .ok (.iconst (-1), 1) := by decide +kernel
theorem dX8_theft_10 : decode cX8_theft 10 = .ok (.ireturn, 1) := by decide +kernel
theorem dX8_theft_11 : decode cX8_theft 11 = .ok (.iconst 0, 1) := by decide +kernel
theorem dX8_theft_12 : decode cX8_theft 12 = .ok (.istore_n 2, 1) := by decide +kernel
theorem dX8_theft_13 : decode cX8_theft 13 = .ok (.bipush (-9), 2) := by decide +kernel
theorem dX8_theft_15 : decode cX8_theft 15 = .ok (.istore_n 3, 1) := by decide +kernel
theorem dX8_theft_16 : decode cX8_theft 16 = .ok (.iconst 0, 1) := by decide +kernel
theorem dX8_theft_17 : decode cX8_theft 17 = .ok (.istore 4, 2) := by decide +kernel
theorem dX8_theft_19 : decode cX8_theft 19 = .ok (.aload_n 0, 1) := by decide +kernel
theorem dX8_theft_20 : decode cX8_theft 20 = .ok (.getfield 13, 3) := by decide +kernel
theorem dX8_theft_23 : decode cX8_theft 23 = .ok (.iconst 0, 1) := by decide +kernel
theorem dX8_theft_24 : decode cX8_theft 24 = .ok (.iaload, 1) := by decide +kernel
theorem dX8_theft_25 : decode cX8_theft 25 = .ok (.iconst 1, 1) := by decide +kernel
theorem dX8_theft_26 : decode cX8_theft 26 = .ok (.isub, 1) := by decide +kernel
theorem dX8_theft_27 : decode cX8_theft 27 = .ok (.istore 5, 2) := by decide +kernel
theorem dX8_theft_29 : decode cX8_theft 29 = .ok (.iload 5, 2) := by decide +kernel
theorem dX8_theft_31 : decode cX8_theft 31 = .ok (.ifCond .lt 112, 3) := by decide +kernel
theorem dX8_theft_34 : decode cX8_theft 34 = .ok (.aload_n 0, 1) := by decide +kernel
theorem dX8_theft_35 : decode cX8_theft 35 = .ok (.iload 5, 2) := by decide +kernel
theorem dX8_theft_37 : decode cX8_theft 37 = .ok (.invokevirtual 98, 3) := by decide +kernel
theorem dX8_theft_40 : decode cX8_theft 40 = .ok (.istore 6, 2) := by decide +kernel
theorem dX8_theft_42 : decode cX8_theft 42 = .ok (.bipush 20, 2) := by decide +kernel
theorem dX8_theft_44 : decode cX8_theft 44 = .ok (.istore 7, 2) := by decide +kernel
theorem dX8_theft_46 : decode cX8_theft 46 = .ok (.iload 7, 2) := by decide +kernel
theorem dX8_theft_48 : decode cX8_theft 48 = .ok (.ifCond .le 89, 3) := by decide +kernel
theorem dX8_theft_51 : decode cX8_theft 51 = .ok (.iload 7, 2) := by decide +kernel
theorem dX8_theft_53 : decode cX8_theft 53 = .ok (.iload 6, 2) := by decide +kernel
theorem dX8_theft_55 : decode cX8_theft 55 = .ok (.if_icmp .gt 76, 3) := by decide +kernel
theorem dX8_theft_58 : decode cX8_theft 58 = .ok (.aload_n 0, 1) := by decide +kernel
theorem dX8_theft_59 : decode cX8_theft 59 = .ok (.invokevirtual 130, 3) := by decide +kernel
theorem dX8_theft_62 : decode cX8_theft 62 = .ok (.aload_n 0, 1) := by decide +kernel
theorem dX8_theft_63 : decode cX8_theft 63 = .ok (.iload 5, 2) := by decide +kernel
theorem dX8_theft_65 : decode cX8_theft 65 = .ok (.iload 7, 2) := by decide +kernel
theorem dX8_theft_67 : decode cX8_theft 67 = .ok (.iconst (-1), 1) := by decide +kernel
theorem dX8_theft_68 : decode cX8_theft 68 = .ok (.invokevirtual 123, 3) := by decide +kernel
theorem dX8_theft_71 : decode cX8_theft 71 = .ok (.pop, 1) := by decide +kernel
theorem dX8_theft_72 : decode cX8_theft 72 = .ok (.aload_n 0, 1) := by decide +kernel
theorem dX8_theft_73 : decode cX8_theft 73 = .ok (.invokevirtual 139, 3) := by decide +kernel
theorem dX8_theft_76 : decode cX8_theft 76 = .ok (.istore 8, 2) := by decide +kernel
theorem dX8_theft_78 : decode cX8_theft 78 = .ok (.aload_n 0, 1) := by decide +kernel
theorem dX8_theft_79 : decode cX8_theft 79 = .ok (.invokevirtual 133, 3) := by decide +kernel
theorem dX8_theft_82 : decode cX8_theft 82 = .ok (.iload_n 2, 1) := by decide +kernel
theorem dX8_theft_83 : decode cX8_theft 83 = .ok (.iload 8, 2) := by decide +kernel
theorem dX8_theft_85 : decode cX8_theft 85 = .ok (.ifCond .eq 7, 3) := by decide +kernel
theorem dX8_theft_88 : decode cX8_theft 88 = .ok (.iconst 1, 1) := by decide +kernel
theorem dX8_theft_89 : decode cX8_theft 89 = .ok (.goto 4, 3) := by decide +kernel
theorem dX8_theft_92 : decode cX8_theft 92 = .ok (.iconst 0, 1) := by decide +kernel
theorem dX8_theft_93 : decode cX8_theft 93 = .ok (.iadd, 1) := by decide +kernel
theorem dX8_theft_94 : decode cX8_theft 94 = .ok (.istore_n 2, 1) := by decide +kernel
theorem dX8_theft_95 : decode cX8_theft 95 = .ok (.iload 8, 2) := by decide +kernel
theorem dX8_theft_97 : decode cX8_theft 97 = .ok (.ifCond .eq 14, 3) := by decide +kernel
theorem dX8_theft_100 : decode cX8_theft 100 = .ok (.bipush 100, 2) := by decide +kernel
theorem dX8_theft_102 : decode cX8_theft 102 = .ok (.iload 5, 2) := by decide +kernel
theorem dX8_theft_104 : decode cX8_theft 104 = .ok (.imul, 1) := by decide +kernel
theorem dX8_theft_105 : decode cX8_theft 105 = .ok (.iload 7, 2) := by decide +kernel
theorem dX8_theft_107 : decode cX8_theft 107 = .ok (.iadd, 1) := by decide +kernel
theorem dX8_theft_108 : decode cX8_theft 108 = .ok (.goto 4, 3) := by decide +kernel
theorem dX8_theft_111 : decode cX8_theft 111 = .ok (.iload_n 3, 1) := by decide +kernel
theorem dX8_theft_112 : decode cX8_theft 112 = .ok (.istore_n 3, 1) := by decide +kernel
theorem dX8_theft_113 : decode cX8_theft 113 = .ok (.iload 4, 2) := by decide +kernel
theorem dX8_theft_115 : decode cX8_theft 115 = .ok (.iload 8, 2) := by decide +kernel
theorem dX8_theft_117 : decode cX8_theft 117 = .ok (.ifCond .eq 10, 3) := by decide +kernel
theorem dX8_theft_120 : decode cX8_theft 120 = .ok (.iconst 1, 1) := by decide +kernel
theorem dX8_theft_121 : decode cX8_theft 121 = .ok (.iload 5, 2) := by decide +kernel
theorem dX8_theft_123 : decode cX8_theft 123 = .ok (.ishl, 1) := by decide +kernel
theorem dX8_theft_124 : decode cX8_theft 124 = .ok (.goto 4, 3) := by decide +kernel
theorem dX8_theft_127 : decode cX8_theft 127 = .ok (.iconst 0, 1) := by decide +kernel
theorem dX8_theft_128 : decode cX8_theft 128 = .ok (.ior, 1) := by decide +kernel
theorem dX8_theft_129 : decode cX8_theft 129 = .ok (.istore 4, 2) := by decide +kernel
theorem dX8_theft_131 : decode cX8_theft 131 = .ok (.iinc 7 (-1), 3) := by decide +kernel
theorem dX8_theft_134 : decode cX8_theft 134 = .ok (.goto (-88), 3) := by decide +kernel
theorem dX8_theft_137 : decode cX8_theft 137 = .ok (.iinc 5 (-1), 3) := by decide +kernel
theorem dX8_theft_140 : decode cX8_theft 140 = .ok (.goto (-111), 3) := by decide +kernel
theorem dX8_theft_143 : decode cX8_theft 143 = .ok (.iload_n 1, 1) := by decide +kernel
theorem dX8_theft_144 : decode cX8_theft 144 = .ok (.ifCond .ne 7, 3) := by decide +kernel
theorem dX8_theft_147 : decode cX8_theft 147 = .ok (.iload_n 2, 1) := by decide +kernel
theorem dX8_theft_148 : decode cX8_theft 148 = .ok (.goto 14, 3) := by decide +kernel
theorem dX8_theft_151 : decode cX8_theft 151 = .ok (.iload_n 1, 1) := by decide +kernel
theorem dX8_theft_152 : decode cX8_theft 152 = .ok (.iconst 1, 1) := by decide +kernel
theorem dX8_theft_153 : decode cX8_theft 153 = .ok (.if_icmp .ne 7, 3) := by decide +kernel
theorem dX8_theft_156 : decode cX8_theft 156 = .ok (.iload_n 3, 1) := by decide +kernel
theorem dX8_theft_157 : decode cX8_theft 157 = .ok (.goto 5, 3) := by decide +kernel
theorem dX8_theft_160 : decode cX8_theft 160 = .ok (.iload 4, 2) := by decide +kernel
theorem dX8_theft_162 : decode cX8_theft 162 = .ok (.ireturn, 1) := by decide +kernel
theorem dX8_isHail_0 : decode cX8_isHail 0 = .ok (.aload_n 0, 1) := by decide +kernel
theorem dX8_isHail_1 : decode cX8_isHail 1 = .ok (.getfield 13, 3) := by decide +kernel
theorem dX8_isHail_4 : decode cX8_isHail 4 = .ok (.bipush 26, 2) := by decide +kernel
theorem dX8_isHail_6 : decode cX8_isHail 6 = .ok (.iload_n 1, 1) := by decide +kernel
theorem dX8_isHail_7 : decode cX8_isHail 7 = .ok (.iadd, 1) := by decide +kernel
theorem dX8_isHail_8 : decode cX8_isHail 8 = .ok (.iaload, 1) := by decide +kernel
theorem dX8_isHail_9 : decode cX8_isHail 9 = .ok (.iconst 2, 1) := by decide +kernel
theorem dX8_isHail_10 : decode cX8_isHail 10 = .ok (.if_icmp .ne 7, 3) := by decide +kernel
theorem dX8_isHail_13 : decode cX8_isHail 13 = .ok (.iconst 1, 1) := by decide +kernel
theorem dX8_isHail_14 : decode cX8_isHail 14 = .ok (.goto 4, 3) := by decide +kernel
theorem dX8_isHail_17 : decode cX8_isHail 17 = .ok (.iconst 0, 1) := by decide +kernel
theorem dX8_isHail_18 : decode cX8_isHail 18 = .ok (.ireturn, 1) := by decide +kernel
theorem dX8_stand_0 : decode cX8_stand 0 = .ok (.iconst 0, 1) := by decide +kernel
theorem dX8_stand_1 : decode cX8_stand 1 = .ok (.istore_n 2, 1) := by decide +kernel
theorem dX8_stand_2 : decode cX8_stand 2 = .ok (.iconst 0, 1) := by decide +kernel
theorem dX8_stand_3 : decode cX8_stand 3 = .ok (.istore_n 3, 1) := by decide +kernel
theorem dX8_stand_4 : decode cX8_stand 4 = .ok (.iconst 0, 1) := by decide +kernel
theorem dX8_stand_5 : decode cX8_stand 5 = .ok (.istore 4, 2) := by decide +kernel
theorem dX8_stand_7 : decode cX8_stand 7 = .ok (.iload 4, 2) := by decide +kernel
theorem dX8_stand_9 : decode cX8_stand 9 = .ok (.aload_n 0, 1) := by decide +kernel
theorem dX8_stand_10 : decode cX8_stand 10 = .ok (.getfield 13, 3) := by decide +kernel
theorem dX8_stand_13 : decode cX8_stand 13 = .ok (.iconst 0, 1) := by decide +kernel
theorem dX8_stand_14 : decode cX8_stand 14 = .ok (.iaload, 1) := by decide +kernel
theorem dX8_stand_15 : decode cX8_stand 15 = .ok (.if_icmp .ge 45, 3) := by decide +kernel
theorem dX8_stand_18 : decode cX8_stand 18 = .ok (.iload_n 1, 1) := by decide +kernel
theorem dX8_stand_19 : decode cX8_stand 19 = .ok (.iload 4, 2) := by decide +kernel
theorem dX8_stand_21 : decode cX8_stand 21 = .ok (.ishr, 1) := by decide +kernel
theorem dX8_stand_22 : decode cX8_stand 22 = .ok (.iconst 1, 1) := by decide +kernel
theorem dX8_stand_23 : decode cX8_stand 23 = .ok (.iand, 1) := by decide +kernel
theorem dX8_stand_24 : decode cX8_stand 24 = .ok (.iconst 1, 1) := by decide +kernel
theorem dX8_stand_25 : decode cX8_stand 25 = .ok (.if_icmp .ne 29, 3) := by decide +kernel
theorem dX8_stand_28 : decode cX8_stand 28 = .ok (.iload_n 2, 1) := by decide +kernel
theorem dX8_stand_29 : decode cX8_stand 29 = .ok (.aload_n 0, 1) := by decide +kernel
theorem dX8_stand_30 : decode cX8_stand 30 = .ok (.iload 4, 2) := by decide +kernel
theorem dX8_stand_32 : decode cX8_stand 32 = .ok (.invokevirtual 98, 3) := by decide +kernel
theorem dX8_stand_35 : decode cX8_stand 35 = .ok (.iadd, 1) := by decide +kernel
theorem dX8_stand_36 : decode cX8_stand 36 = .ok (.istore_n 2, 1) := by decide +kernel
theorem dX8_stand_37 : decode cX8_stand 37 = .ok (.iload_n 3, 1) := by decide +kernel
theorem dX8_stand_38 : decode cX8_stand 38 = .ok (.aload_n 0, 1) := by decide +kernel
theorem dX8_stand_39 : decode cX8_stand 39 = .ok (.iload 4, 2) := by decide +kernel
theorem dX8_stand_41 : decode cX8_stand 41 = .ok (.invokevirtual 142, 3) := by decide +kernel
theorem dX8_stand_44 : decode cX8_stand 44 = .ok (.ifCond .eq 7, 3) := by decide +kernel
theorem dX8_stand_47 : decode cX8_stand 47 = .ok (.iconst 2, 1) := by decide +kernel
theorem dX8_stand_48 : decode cX8_stand 48 = .ok (.goto 4, 3) := by decide +kernel
theorem dX8_stand_51 : decode cX8_stand 51 = .ok (.iconst 1, 1) := by decide +kernel
theorem dX8_stand_52 : decode cX8_stand 52 = .ok (.ior, 1) := by decide +kernel
theorem dX8_stand_53 : decode cX8_stand 53 = .ok (.istore_n 3, 1) := by decide +kernel
theorem dX8_stand_54 : decode cX8_stand 54 = .ok (.iinc 4 1, 3) := by decide +kernel
theorem dX8_stand_57 : decode cX8_stand 57 = .ok (.goto (-50), 3) := by decide +kernel
theorem dX8_stand_60 : decode cX8_stand 60 = .ok (.iload_n 2, 1) := by decide +kernel
theorem dX8_stand_61 : decode cX8_stand 61 = .ok (.aload_n 0, 1) := by decide +kernel
theorem dX8_stand_62 : decode cX8_stand 62 = .ok (.getfield 13, 3) := by decide +kernel
theorem dX8_stand_65 : decode cX8_stand 65 = .ok (.iconst 2, 1) := by decide +kernel
theorem dX8_stand_66 : decode cX8_stand 66 = .ok (.iaload, 1) := by decide +kernel
theorem dX8_stand_67 : decode cX8_stand 67 = .ok (.if_icmp .gt 12, 3) := by decide +kernel
theorem dX8_stand_70 : decode cX8_stand 70 = .ok (.iload_n 3, 1) := by decide +kernel
theorem dX8_stand_71 : decode cX8_stand 71 = .ok (.iconst 3, 1) := by decide +kernel
theorem dX8_stand_72 : decode cX8_stand 72 = .ok (.if_icmp .eq 7, 3) := by decide +kernel
theorem dX8_stand_75 : decode cX8_stand 75 = .ok (.iconst 1, 1) := by decide +kernel
theorem dX8_stand_76 : decode cX8_stand 76 = .ok (.goto 4, 3) := by decide +kernel
theorem dX8_stand_79 : decode cX8_stand 79 = .ok (.iconst 0, 1) := by decide +kernel
theorem dX8_stand_80 : decode cX8_stand 80 = .ok (.ireturn, 1) := by decide +kernel
theorem dX8_shelves_0 : decode cX8_shelves 0 = .ok (.iconst 0, 1) := by decide +kernel
theorem dX8_shelves_1 : decode cX8_shelves 1 = .ok (.istore_n 1, 1) := by decide +kernel
theorem dX8_shelves_2 : decode cX8_shelves 2 = .ok (.iconst 0, 1) := by decide +kernel
theorem dX8_shelves_3 : decode cX8_shelves 3 = .ok (.istore_n 2, 1) := by decide +kernel
theorem dX8_shelves_4 : decode cX8_shelves 4 = .ok (.iload_n 2, 1) := by decide +kernel
theorem dX8_shelves_5 : decode cX8_shelves 5 = .ok (.aload_n 0, 1) := by decide +kernel
theorem dX8_shelves_6 : decode cX8_shelves 6 = .ok (.getfield 13, 3) := by decide +kernel
theorem dX8_shelves_9 : decode cX8_shelves 9 = .ok (.iconst 0, 1) := by decide +kernel
theorem dX8_shelves_10 : decode cX8_shelves 10 = .ok (.iaload, 1) := by decide +kernel
theorem dX8_shelves_11 : decode cX8_shelves 11 = .ok (.if_icmp .ge 27, 3) := by decide +kernel
theorem dX8_shelves_14 : decode cX8_shelves 14 = .ok (.iload_n 1, 1) := by decide +kernel
theorem dX8_shelves_15 : decode cX8_shelves 15 = .ok (.aload_n 0, 1) := by decide +kernel
theorem dX8_shelves_16 : decode cX8_shelves 16 = .ok (.iload_n 2, 1) := by decide +kernel
theorem dX8_shelves_17 : decode cX8_shelves 17 = .ok (.invokevirtual 98, 3) := by decide +kernel
theorem dX8_shelves_20 : decode cX8_shelves 20 = .ok (.ifCond .le 9, 3) := by decide +kernel
theorem dX8_shelves_23 : decode cX8_shelves 23 = .ok (.iconst 1, 1) := by decide +kernel
theorem dX8_shelves_24 : decode cX8_shelves 24 = .ok (.iload_n 2, 1) := by decide +kernel
theorem dX8_shelves_25 : decode cX8_shelves 25 = .ok (.ishl, 1) := by decide +kernel
theorem dX8_shelves_26 : decode cX8_shelves 26 = .ok (.goto 4, 3) := by decide +kernel
theorem dX8_shelves_29 : decode cX8_shelves 29 = .ok (.iconst 0, 1) := by decide +kernel
theorem dX8_shelves_30 : decode cX8_shelves 30 = .ok (.ior, 1) := by decide +kernel
theorem dX8_shelves_31 : decode cX8_shelves 31 = .ok (.istore_n 1, 1) := by decide +kernel
theorem dX8_shelves_32 : decode cX8_shelves 32 = .ok (.iinc 2 1, 3) := by decide +kernel
theorem dX8_shelves_35 : decode cX8_shelves 35 = .ok (.goto (-31), 3) := by decide +kernel
theorem dX8_shelves_38 : decode cX8_shelves 38 = .ok (.iconst 0, 1) := by decide +kernel
theorem dX8_shelves_39 : decode cX8_shelves 39 = .ok (.istore_n 2, 1) := by decide +kernel
theorem dX8_shelves_40 : decode cX8_shelves 40 = .ok (.iload_n 2, 1) := by decide +kernel
theorem dX8_shelves_41 : decode cX8_shelves 41 = .ok (.iconst 1, 1) := by decide +kernel
theorem dX8_shelves_42 : decode cX8_shelves 42 = .ok (.aload_n 0, 1) := by decide +kernel
theorem dX8_shelves_43 : decode cX8_shelves 43 = .ok (.getfield 13, 3) := by decide +kernel
theorem dX8_shelves_46 : decode cX8_shelves 46 = .ok (.iconst 0, 1) := by decide +kernel
theorem dX8_shelves_47 : decode cX8_shelves 47 = .ok (.iaload, 1) := by decide +kernel
theorem dX8_shelves_48 : decode cX8_shelves 48 = .ok (.ishl, 1) := by decide +kernel
theorem dX8_shelves_49 : decode cX8_shelves 49 = .ok (.if_icmp .ge 129, 3) := by decide +kernel
theorem dX8_shelves_52 : decode cX8_shelves 52 = .ok (.aload_n 0, 1) := by decide +kernel
theorem dX8_shelves_53 : decode cX8_shelves 53 = .ok (.getfield 41, 3) := by decide +kernel
theorem dX8_shelves_56 : decode cX8_shelves 56 = .ok (.iload_n 2, 1) := by decide +kernel
theorem dX8_shelves_57 : decode cX8_shelves 57 = .ok (.iload_n 2, 1) := by decide +kernel
theorem dX8_shelves_58 : decode cX8_shelves 58 = .ok (.ifCond .ne 7, 3) := by decide +kernel
theorem dX8_shelves_61 : decode cX8_shelves 61 = .ok (.iconst 0, 1) := by decide +kernel
theorem dX8_shelves_62 : decode cX8_shelves 62 = .ok (.goto 5, 3) := by decide +kernel
theorem dX8_shelves_65 : decode cX8_shelves 65 = .ok (.bipush 99, 2) := by decide +kernel
theorem dX8_shelves_67 : decode cX8_shelves 67 = .ok (.iastore, 1) := by decide +kernel
theorem dX8_shelves_68 : decode cX8_shelves 68 = .ok (.iconst 1, 1) := by decide +kernel
theorem dX8_shelves_69 : decode cX8_shelves 69 = .ok (.istore_n 3, 1) := by decide +kernel
theorem dX8_shelves_70 : decode cX8_shelves 70 = .ok (.iload_n 3, 1) := by decide +kernel
theorem dX8_shelves_71 : decode cX8_shelves 71 = .ok (.iload_n 2, 1) := by decide +kernel
theorem dX8_shelves_72 : decode cX8_shelves 72 = .ok (.if_icmp .gt 100, 3) := by decide +kernel
theorem dX8_shelves_75 : decode cX8_shelves 75 = .ok (.iload_n 3, 1) := by decide +kernel
theorem dX8_shelves_76 : decode cX8_shelves 76 = .ok (.iload_n 2, 1) := by decide +kernel
theorem dX8_shelves_77 : decode cX8_shelves 77 = .ok (.iconst (-1), 1) := by decide +kernel
theorem dX8_shelves_78 : decode cX8_shelves 78 = .ok (.ixor, 1) := by decide +kernel
theorem dX8_shelves_79 : decode cX8_shelves 79 = .ok (.iand, 1) := by decide +kernel
theorem dX8_shelves_80 : decode cX8_shelves 80 = .ok (.ifCond .ne 30, 3) := by decide +kernel
theorem dX8_shelves_83 : decode cX8_shelves 83 = .ok (.aload_n 0, 1) := by decide +kernel
theorem dX8_shelves_84 : decode cX8_shelves 84 = .ok (.getfield 41, 3) := by decide +kernel
theorem dX8_shelves_87 : decode cX8_shelves 87 = .ok (.iload_n 2, 1) := by decide +kernel
theorem dX8_shelves_88 : decode cX8_shelves 88 = .ok (.iload_n 3, 1) := by decide +kernel
theorem dX8_shelves_89 : decode cX8_shelves 89 = .ok (.iconst (-1), 1) := by decide +kernel
theorem dX8_shelves_90 : decode cX8_shelves 90 = .ok (.ixor, 1) := by decide +kernel
theorem dX8_shelves_91 : decode cX8_shelves 91 = .ok (.iand, 1) := by decide +kernel
theorem dX8_shelves_92 : decode cX8_shelves 92 = .ok (.iaload, 1) := by decide +kernel
theorem dX8_shelves_93 : decode cX8_shelves 93 = .ok (.bipush 99, 2) := by decide +kernel
theorem dX8_shelves_95 : decode cX8_shelves 95 = .ok (.if_icmp .ge 15, 3) := by decide +kernel
theorem dX8_shelves_98 : decode cX8_shelves 98 = .ok (.aload_n 0, 1) := by decide +kernel
theorem dX8_shelves_99 : decode cX8_shelves 99 = .ok (.iload_n 3, 1) := by decide +kernel
theorem dX8_shelves_100 : decode cX8_shelves 100 = .ok (.invokevirtual 145, 3) := by decide +kernel
theorem dX8_shelves_103 : decode cX8_shelves 103 = .ok (.ifCond .eq 7, 3) := by decide +kernel
theorem dX8_shelves_106 : decode cX8_shelves 106 = .ok (.iconst 1, 1) := by decide +kernel
theorem dX8_shelves_107 : decode cX8_shelves 107 = .ok (.goto 4, 3) := by decide +kernel
theorem dX8_shelves_110 : decode cX8_shelves 110 = .ok (.iconst 0, 1) := by decide +kernel
theorem dX8_shelves_111 : decode cX8_shelves 111 = .ok (.istore 4, 2) := by decide +kernel
theorem dX8_shelves_113 : decode cX8_shelves 113 = .ok (.aload_n 0, 1) := by decide +kernel
theorem dX8_shelves_114 : decode cX8_shelves 114 = .ok (.getfield 41, 3) := by decide +kernel
theorem dX8_shelves_117 : decode cX8_shelves 117 = .ok (.iload_n 2, 1) := by decide +kernel
theorem dX8_shelves_118 : decode cX8_shelves 118 = .ok (.iload 4, 2) := by decide +kernel
theorem dX8_shelves_120 : decode cX8_shelves 120 = .ok (.ifCond .eq 39, 3) := by decide +kernel
theorem dX8_shelves_123 : decode cX8_shelves 123 = .ok (.aload_n 0, 1) := by decide +kernel
theorem dX8_shelves_124 : decode cX8_shelves 124 = .ok (.getfield 41, 3) := by decide +kernel
theorem dX8_shelves_127 : decode cX8_shelves 127 = .ok (.iload_n 2, 1) := by decide +kernel
theorem dX8_shelves_128 : decode cX8_shelves 128 = .ok (.iload_n 3, 1) := by decide +kernel
theorem dX8_shelves_129 : decode cX8_shelves 129 = .ok (.iconst (-1), 1) := by decide +kernel
theorem dX8_shelves_130 : decode cX8_shelves 130 = .ok (.ixor, 1) := by decide +kernel
theorem dX8_shelves_131 : decode cX8_shelves 131 = .ok (.iand, 1) := by decide +kernel
theorem dX8_shelves_132 : decode cX8_shelves 132 = .ok (.iaload, 1) := by decide +kernel
theorem dX8_shelves_133 : decode cX8_shelves 133 = .ok (.iconst 1, 1) := by decide +kernel
theorem dX8_shelves_134 : decode cX8_shelves 134 = .ok (.iadd, 1) := by decide +kernel
theorem dX8_shelves_135 : decode cX8_shelves 135 = .ok (.aload_n 0, 1) := by decide +kernel
theorem dX8_shelves_136 : decode cX8_shelves 136 = .ok (.getfield 41, 3) := by decide +kernel
theorem dX8_shelves_139 : decode cX8_shelves 139 = .ok (.iload_n 2, 1) := by decide +kernel
theorem dX8_shelves_140 : decode cX8_shelves 140 = .ok (.iaload, 1) := by decide +kernel
theorem dX8_shelves_141 : decode cX8_shelves 141 = .ok (.if_icmp .ge 18, 3) := by decide +kernel
theorem dX8_shelves_144 : decode cX8_shelves 144 = .ok (.aload_n 0, 1) := by decide +kernel
theorem dX8_shelves_145 : decode cX8_shelves 145 = .ok (.getfield 41, 3) := by decide +kernel
theorem dX8_shelves_148 : decode cX8_shelves 148 = .ok (.iload_n 2, 1) := by decide +kernel
theorem dX8_shelves_149 : decode cX8_shelves 149 = .ok (.iload_n 3, 1) := by decide +kernel
theorem dX8_shelves_150 : decode cX8_shelves 150 = .ok (.iconst (-1), 1) := by decide +kernel
theorem dX8_shelves_151 : decode cX8_shelves 151 = .ok (.ixor, 1) := by decide +kernel
theorem dX8_shelves_152 : decode cX8_shelves 152 = .ok (.iand, 1) := by decide +kernel
theorem dX8_shelves_153 : decode cX8_shelves 153 = .ok (.iaload, 1) := by decide +kernel
theorem dX8_shelves_154 : decode cX8_shelves 154 = .ok (.iconst 1, 1) := by decide +kernel
theorem dX8_shelves_155 : decode cX8_shelves 155 = .ok (.iadd, 1) := by decide +kernel
theorem dX8_shelves_156 : decode cX8_shelves 156 = .ok (.goto 9, 3) := by decide +kernel
theorem dX8_shelves_159 : decode cX8_shelves 159 = .ok (.aload_n 0, 1) := by decide +kernel
theorem dX8_shelves_160 : decode cX8_shelves 160 = .ok (.getfield 41, 3) := by decide +kernel
theorem dX8_shelves_163 : decode cX8_shelves 163 = .ok (.iload_n 2, 1) := by decide +kernel
theorem dX8_shelves_164 : decode cX8_shelves 164 = .ok (.iaload, 1) := by decide +kernel
theorem dX8_shelves_165 : decode cX8_shelves 165 = .ok (.iastore, 1) := by decide +kernel
theorem dX8_shelves_166 : decode cX8_shelves 166 = .ok (.iinc 3 1, 3) := by decide +kernel
theorem dX8_shelves_169 : decode cX8_shelves 169 = .ok (.goto (-99), 3) := by decide +kernel
theorem dX8_shelves_172 : decode cX8_shelves 172 = .ok (.iinc 2 1, 3) := by decide +kernel
theorem dX8_shelves_175 : decode cX8_shelves 175 = .ok (.goto (-135), 3) := by decide +kernel
theorem dX8_shelves_178 : decode cX8_shelves 178 = .ok (.aload_n 0, 1) := by decide +kernel
theorem dX8_shelves_179 : decode cX8_shelves 179 = .ok (.getfield 41, 3) := by decide +kernel
theorem dX8_shelves_182 : decode cX8_shelves 182 = .ok (.iload_n 1, 1) := by decide +kernel
theorem dX8_shelves_183 : decode cX8_shelves 183 = .ok (.iaload, 1) := by decide +kernel
theorem dX8_shelves_184 : decode cX8_shelves 184 = .ok (.bipush 99, 2) := by decide +kernel
theorem dX8_shelves_186 : decode cX8_shelves 186 = .ok (.if_icmp .ne 8, 3) := by decide +kernel
theorem dX8_shelves_189 : decode cX8_shelves 189 = .ok (.bipush (-9), 2) := by decide +kernel
theorem dX8_shelves_191 : decode cX8_shelves 191 = .ok (.goto 9, 3) := by decide +kernel
theorem dX8_shelves_194 : decode cX8_shelves 194 = .ok (.aload_n 0, 1) := by decide +kernel
theorem dX8_shelves_195 : decode cX8_shelves 195 = .ok (.getfield 41, 3) := by decide +kernel
theorem dX8_shelves_198 : decode cX8_shelves 198 = .ok (.iload_n 1, 1) := by decide +kernel
theorem dX8_shelves_199 : decode cX8_shelves 199 = .ok (.iaload, 1) := by decide +kernel
theorem dX8_shelves_200 : decode cX8_shelves 200 = .ok (.ireturn, 1) := by decide +kernel
theorem dX8_beside_0 : decode cX8_beside 0 = .ok (.aload_n 0, 1) := by decide +kernel
theorem dX8_beside_1 : decode cX8_beside 1 = .ok (.iload_n 1, 1) := by decide +kernel
theorem dX8_beside_2 : decode cX8_beside 2 = .ok (.invokevirtual 104, 3) := by decide +kernel
theorem dX8_beside_5 : decode cX8_beside 5 = .ok (.ifCond .ne 5, 3) := by decide +kernel
theorem dX8_beside_8 : decode cX8_beside 8 = .ok (.iconst (-1), 1) := by decide +kernel
theorem dX8_beside_9 : decode cX8_beside 9 = .ok (.ireturn, 1) := by decide +kernel
theorem dX8_beside_10 : decode cX8_beside 10 = .ok (.bipush (-9), 2) := by decide +kernel
theorem dX8_beside_12 : decode cX8_beside 12 = .ok (.istore_n 2, 1) := by decide +kernel
theorem dX8_beside_13 : decode cX8_beside 13 = .ok (.iconst 0, 1) := by decide +kernel
theorem dX8_beside_14 : decode cX8_beside 14 = .ok (.istore_n 3, 1) := by decide +kernel
theorem dX8_beside_15 : decode cX8_beside 15 = .ok (.iload_n 3, 1) := by decide +kernel
theorem dX8_beside_16 : decode cX8_beside 16 = .ok (.iconst 1, 1) := by decide +kernel
theorem dX8_beside_17 : decode cX8_beside 17 = .ok (.aload_n 0, 1) := by decide +kernel
theorem dX8_beside_18 : decode cX8_beside 18 = .ok (.getfield 13, 3) := by decide +kernel
theorem dX8_beside_21 : decode cX8_beside 21 = .ok (.iconst 0, 1) := by decide +kernel
theorem dX8_beside_22 : decode cX8_beside 22 = .ok (.iaload, 1) := by decide +kernel
theorem dX8_beside_23 : decode cX8_beside 23 = .ok (.ishl, 1) := by decide +kernel
theorem dX8_beside_24 : decode cX8_beside 24 = .ok (.if_icmp .ge 109, 3) := by decide +kernel
theorem dX8_beside_27 : decode cX8_beside 27 = .ok (.iload_n 3, 1) := by decide +kernel
theorem dX8_beside_28 : decode cX8_beside 28 = .ok (.iload_n 1, 1) := by decide +kernel
theorem dX8_beside_29 : decode cX8_beside 29 = .ok (.ishr, 1) := by decide +kernel
theorem dX8_beside_30 : decode cX8_beside 30 = .ok (.iconst 1, 1) := by decide +kernel
theorem dX8_beside_31 : decode cX8_beside 31 = .ok (.iand, 1) := by decide +kernel
theorem dX8_beside_32 : decode cX8_beside 32 = .ok (.iconst 1, 1) := by decide +kernel
theorem dX8_beside_33 : decode cX8_beside 33 = .ok (.if_icmp .ne 15, 3) := by decide +kernel
theorem dX8_beside_36 : decode cX8_beside 36 = .ok (.aload_n 0, 1) := by decide +kernel
theorem dX8_beside_37 : decode cX8_beside 37 = .ok (.iload_n 3, 1) := by decide +kernel
theorem dX8_beside_38 : decode cX8_beside 38 = .ok (.invokevirtual 145, 3) := by decide +kernel
theorem dX8_beside_41 : decode cX8_beside 41 = .ok (.ifCond .eq 7, 3) := by decide +kernel
theorem dX8_beside_44 : decode cX8_beside 44 = .ok (.iconst 1, 1) := by decide +kernel
theorem dX8_beside_45 : decode cX8_beside 45 = .ok (.goto 4, 3) := by decide +kernel
theorem dX8_beside_48 : decode cX8_beside 48 = .ok (.iconst 0, 1) := by decide +kernel
theorem dX8_beside_49 : decode cX8_beside 49 = .ok (.istore 4, 2) := by decide +kernel
theorem dX8_beside_51 : decode cX8_beside 51 = .ok (.iconst 0, 1) := by decide +kernel
theorem dX8_beside_52 : decode cX8_beside 52 = .ok (.istore 5, 2) := by decide +kernel
theorem dX8_beside_54 : decode cX8_beside 54 = .ok (.iload 5, 2) := by decide +kernel
theorem dX8_beside_56 : decode cX8_beside 56 = .ok (.aload_n 0, 1) := by decide +kernel
theorem dX8_beside_57 : decode cX8_beside 57 = .ok (.getfield 13, 3) := by decide +kernel
theorem dX8_beside_60 : decode cX8_beside 60 = .ok (.iconst 0, 1) := by decide +kernel
theorem dX8_beside_61 : decode cX8_beside 61 = .ok (.iaload, 1) := by decide +kernel
theorem dX8_beside_62 : decode cX8_beside 62 = .ok (.if_icmp .ge 39, 3) := by decide +kernel
theorem dX8_beside_65 : decode cX8_beside 65 = .ok (.iload 4, 2) := by decide +kernel
theorem dX8_beside_67 : decode cX8_beside 67 = .ok (.ifCond .eq 25, 3) := by decide +kernel
theorem dX8_beside_70 : decode cX8_beside 70 = .ok (.iload_n 3, 1) := by decide +kernel
theorem dX8_beside_71 : decode cX8_beside 71 = .ok (.iload 5, 2) := by decide +kernel
theorem dX8_beside_73 : decode cX8_beside 73 = .ok (.ishr, 1) := by decide +kernel
theorem dX8_beside_74 : decode cX8_beside 74 = .ok (.iconst 1, 1) := by decide +kernel
theorem dX8_beside_75 : decode cX8_beside 75 = .ok (.iand, 1) := by decide +kernel
theorem dX8_beside_76 : decode cX8_beside 76 = .ok (.ifCond .eq 12, 3) := by decide +kernel
theorem dX8_beside_79 : decode cX8_beside 79 = .ok (.aload_n 0, 1) := by decide +kernel
theorem dX8_beside_80 : decode cX8_beside 80 = .ok (.iload 5, 2) := by decide +kernel
theorem dX8_beside_82 : decode cX8_beside 82 = .ok (.invokevirtual 98, 3) := by decide +kernel
theorem dX8_beside_85 : decode cX8_beside 85 = .ok (.ifCond .le 7, 3) := by decide +kernel
theorem dX8_beside_88 : decode cX8_beside 88 = .ok (.iconst 1, 1) := by decide +kernel
theorem dX8_beside_89 : decode cX8_beside 89 = .ok (.goto 4, 3) := by decide +kernel
theorem dX8_beside_92 : decode cX8_beside 92 = .ok (.iconst 0, 1) := by decide +kernel
theorem dX8_beside_93 : decode cX8_beside 93 = .ok (.istore 4, 2) := by decide +kernel
theorem dX8_beside_95 : decode cX8_beside 95 = .ok (.iinc 5 1, 3) := by decide +kernel
theorem dX8_beside_98 : decode cX8_beside 98 = .ok (.goto (-44), 3) := by decide +kernel
theorem dX8_beside_101 : decode cX8_beside 101 = .ok (.iload 4, 2) := by decide +kernel
theorem dX8_beside_103 : decode cX8_beside 103 = .ok (.ifCond .eq 22, 3) := by decide +kernel
theorem dX8_beside_106 : decode cX8_beside 106 = .ok (.iload_n 3, 1) := by decide +kernel
theorem dX8_beside_107 : decode cX8_beside 107 = .ok (.invokestatic 136, 3) := by decide +kernel
theorem dX8_beside_110 : decode cX8_beside 110 = .ok (.iconst 1, 1) := by decide +kernel
theorem dX8_beside_111 : decode cX8_beside 111 = .ok (.isub, 1) := by decide +kernel
theorem dX8_beside_112 : decode cX8_beside 112 = .ok (.iload_n 2, 1) := by decide +kernel
theorem dX8_beside_113 : decode cX8_beside 113 = .ok (.if_icmp .le 12, 3) := by decide +kernel
theorem dX8_beside_116 : decode cX8_beside 116 = .ok (.iload_n 3, 1) := by decide +kernel
theorem dX8_beside_117 : decode cX8_beside 117 = .ok (.invokestatic 136, 3) := by decide +kernel
theorem dX8_beside_120 : decode cX8_beside 120 = .ok (.iconst 1, 1) := by decide +kernel
theorem dX8_beside_121 : decode cX8_beside 121 = .ok (.isub, 1) := by decide +kernel
theorem dX8_beside_122 : decode cX8_beside 122 = .ok (.goto 4, 3) := by decide +kernel
theorem dX8_beside_125 : decode cX8_beside 125 = .ok (.iload_n 2, 1) := by decide +kernel
theorem dX8_beside_126 : decode cX8_beside 126 = .ok (.istore_n 2, 1) := by decide +kernel
theorem dX8_beside_127 : decode cX8_beside 127 = .ok (.iinc 3 1, 3) := by decide +kernel
theorem dX8_beside_130 : decode cX8_beside 130 = .ok (.goto (-115), 3) := by decide +kernel
theorem dX8_beside_133 : decode cX8_beside 133 = .ok (.iload_n 2, 1) := by decide +kernel
theorem dX8_beside_134 : decode cX8_beside 134 = .ok (.ireturn, 1) := by decide +kernel
theorem dX8_odds_0 : decode cX8_odds 0 = .ok (.iload_n 1, 1) := by decide +kernel
theorem dX8_odds_1 : decode cX8_odds 1 = .ok (.iconst 0, 1) := by decide +kernel
theorem dX8_odds_2 : decode cX8_odds 2 = .ok (.bipush 10, 2) := by decide +kernel
theorem dX8_odds_4 : decode cX8_odds 4 = .ok (.invokestatic 51, 3) := by decide +kernel
theorem dX8_odds_7 : decode cX8_odds 7 = .ok (.ifCond .eq 22, 3) := by decide +kernel
theorem dX8_odds_10 : decode cX8_odds 10 = .ok (.iload_n 2, 1) := by decide +kernel
theorem dX8_odds_11 : decode cX8_odds 11 = .ok (.iconst 0, 1) := by decide +kernel
theorem dX8_odds_12 : decode cX8_odds 12 = .ok (.bipush 7, 2) := by decide +kernel
theorem dX8_odds_14 : decode cX8_odds 14 = .ok (.invokestatic 51, 3) := by decide +kernel
theorem dX8_odds_17 : decode cX8_odds 17 = .ok (.ifCond .eq 12, 3) := by decide +kernel
theorem dX8_odds_20 : decode cX8_odds 20 = .ok (.iload_n 3, 1) := by decide +kernel
theorem dX8_odds_21 : decode cX8_odds 21 = .ok (.iconst 0, 1) := by decide +kernel
theorem dX8_odds_22 : decode cX8_odds 22 = .ok (.iconst 1, 1) := by decide +kernel
theorem dX8_odds_23 : decode cX8_odds 23 = .ok (.invokestatic 51, 3) := by decide +kernel
theorem dX8_odds_26 : decode cX8_odds 26 = .ok (.ifCond .ne 5, 3) := by decide +kernel
theorem dX8_odds_29 : decode cX8_odds 29 = .ok (.iconst (-1), 1) := by decide +kernel
theorem dX8_odds_30 : decode cX8_odds 30 = .ok (.ireturn, 1) := by decide +kernel
theorem dX8_odds_31 : decode cX8_odds 31 = .ok (.aload_n 0, 1) := by decide +kernel
theorem dX8_odds_32 : decode cX8_odds 32 = .ok (.invokevirtual 111, 3) := by decide +kernel
theorem dX8_odds_35 : decode cX8_odds 35 = .ok (.invokestatic 136, 3) := by decide +kernel
theorem dX8_odds_38 : decode cX8_odds 38 = .ok (.istore 4, 2) := by decide +kernel
theorem dX8_odds_40 : decode cX8_odds 40 = .ok (.iconst 0, 1) := by decide +kernel
theorem dX8_odds_41 : decode cX8_odds 41 = .ok (.istore 5, 2) := by decide +kernel
theorem dX8_odds_43 : decode cX8_odds 43 = .ok (.iconst 1, 1) := by decide +kernel
theorem dX8_odds_44 : decode cX8_odds 44 = .ok (.istore 6, 2) := by decide +kernel
theorem dX8_odds_46 : decode cX8_odds 46 = .ok (.iconst 0, 1) := by decide +kernel
theorem dX8_odds_47 : decode cX8_odds 47 = .ok (.istore 7, 2) := by decide +kernel
theorem dX8_odds_49 : decode cX8_odds 49 = .ok (.iload 7, 2) := by decide +kernel
theorem dX8_odds_51 : decode cX8_odds 51 = .ok (.iload 4, 2) := by decide +kernel
theorem dX8_odds_53 : decode cX8_odds 53 = .ok (.if_icmp .ge 16, 3) := by decide +kernel
theorem dX8_odds_56 : decode cX8_odds 56 = .ok (.iload 6, 2) := by decide +kernel
theorem dX8_odds_58 : decode cX8_odds 58 = .ok (.bipush 10, 2) := by decide +kernel
theorem dX8_odds_60 : decode cX8_odds 60 = .ok (.imul, 1) := by decide +kernel
theorem dX8_odds_61 : decode cX8_odds 61 = .ok (.istore 6, 2) := by decide +kernel
theorem dX8_odds_63 : decode cX8_odds 63 = .ok (.iinc 7 1, 3) := by decide +kernel
theorem dX8_odds_66 : decode cX8_odds 66 = .ok (.goto (-17), 3) := by decide +kernel
theorem dX8_odds_69 : decode cX8_odds 69 = .ok (.iconst 0, 1) := by decide +kernel
theorem dX8_odds_70 : decode cX8_odds 70 = .ok (.istore 7, 2) := by decide +kernel
theorem dX8_odds_72 : decode cX8_odds 72 = .ok (.iload 7, 2) := by decide +kernel
theorem dX8_odds_74 : decode cX8_odds 74 = .ok (.iconst 1, 1) := by decide +kernel
theorem dX8_odds_75 : decode cX8_odds 75 = .ok (.iload 4, 2) := by decide +kernel
theorem dX8_odds_77 : decode cX8_odds 77 = .ok (.ishl, 1) := by decide +kernel
theorem dX8_odds_78 : decode cX8_odds 78 = .ok (.if_icmp .ge 72, 3) := by decide +kernel
theorem dX8_odds_81 : decode cX8_odds 81 = .ok (.iconst 1, 1) := by decide +kernel
theorem dX8_odds_82 : decode cX8_odds 82 = .ok (.istore 8, 2) := by decide +kernel
theorem dX8_odds_84 : decode cX8_odds 84 = .ok (.iconst 0, 1) := by decide +kernel
theorem dX8_odds_85 : decode cX8_odds 85 = .ok (.istore 9, 2) := by decide +kernel
theorem dX8_odds_87 : decode cX8_odds 87 = .ok (.iload 9, 2) := by decide +kernel
theorem dX8_odds_89 : decode cX8_odds 89 = .ok (.iload 4, 2) := by decide +kernel
theorem dX8_odds_91 : decode cX8_odds 91 = .ok (.if_icmp .ge 33, 3) := by decide +kernel
theorem dX8_odds_94 : decode cX8_odds 94 = .ok (.iload 8, 2) := by decide +kernel
theorem dX8_odds_96 : decode cX8_odds 96 = .ok (.iload 7, 2) := by decide +kernel
theorem dX8_odds_98 : decode cX8_odds 98 = .ok (.iload 9, 2) := by decide +kernel
theorem dX8_odds_100 : decode cX8_odds 100 = .ok (.ishr, 1) := by decide +kernel
theorem dX8_odds_101 : decode cX8_odds 101 = .ok (.iconst 1, 1) := by decide +kernel
theorem dX8_odds_102 : decode cX8_odds 102 = .ok (.iand, 1) := by decide +kernel
theorem dX8_odds_103 : decode cX8_odds 103 = .ok (.iconst 1, 1) := by decide +kernel
theorem dX8_odds_104 : decode cX8_odds 104 = .ok (.if_icmp .ne 10, 3) := by decide +kernel
theorem dX8_odds_107 : decode cX8_odds 107 = .ok (.bipush 10, 2) := by decide +kernel
theorem dX8_odds_109 : decode cX8_odds 109 = .ok (.iload_n 1, 1) := by decide +kernel
theorem dX8_odds_110 : decode cX8_odds 110 = .ok (.isub, 1) := by decide +kernel
theorem dX8_odds_111 : decode cX8_odds 111 = .ok (.goto 4, 3) := by decide +kernel
theorem dX8_odds_114 : decode cX8_odds 114 = .ok (.iload_n 1, 1) := by decide +kernel
theorem dX8_odds_115 : decode cX8_odds 115 = .ok (.imul, 1) := by decide +kernel
theorem dX8_odds_116 : decode cX8_odds 116 = .ok (.istore 8, 2) := by decide +kernel
theorem dX8_odds_118 : decode cX8_odds 118 = .ok (.iinc 9 1, 3) := by decide +kernel
theorem dX8_odds_121 : decode cX8_odds 121 = .ok (.goto (-34), 3) := by decide +kernel
theorem dX8_odds_124 : decode cX8_odds 124 = .ok (.iload 5, 2) := by decide +kernel
theorem dX8_odds_126 : decode cX8_odds 126 = .ok (.iload 7, 2) := by decide +kernel
theorem dX8_odds_128 : decode cX8_odds 128 = .ok (.invokestatic 136, 3) := by decide +kernel
theorem dX8_odds_131 : decode cX8_odds 131 = .ok (.iload_n 2, 1) := by decide +kernel
theorem dX8_odds_132 : decode cX8_odds 132 = .ok (.if_icmp .lt 8, 3) := by decide +kernel
theorem dX8_odds_135 : decode cX8_odds 135 = .ok (.iload 8, 2) := by decide +kernel
theorem dX8_odds_137 : decode cX8_odds 137 = .ok (.goto 4, 3) := by decide +kernel
theorem dX8_odds_140 : decode cX8_odds 140 = .ok (.iconst 0, 1) := by decide +kernel
theorem dX8_odds_141 : decode cX8_odds 141 = .ok (.iadd, 1) := by decide +kernel
theorem dX8_odds_142 : decode cX8_odds 142 = .ok (.istore 5, 2) := by decide +kernel
theorem dX8_odds_144 : decode cX8_odds 144 = .ok (.iinc 7 1, 3) := by decide +kernel
theorem dX8_odds_147 : decode cX8_odds 147 = .ok (.goto (-75), 3) := by decide +kernel
theorem dX8_odds_150 : decode cX8_odds 150 = .ok (.iload 5, 2) := by decide +kernel
theorem dX8_odds_152 : decode cX8_odds 152 = .ok (.istore 7, 2) := by decide +kernel
theorem dX8_odds_154 : decode cX8_odds 154 = .ok (.iload 6, 2) := by decide +kernel
theorem dX8_odds_156 : decode cX8_odds 156 = .ok (.istore 8, 2) := by decide +kernel
theorem dX8_odds_158 : decode cX8_odds 158 = .ok (.iload 8, 2) := by decide +kernel
theorem dX8_odds_160 : decode cX8_odds 160 = .ok (.ifCond .le 21, 3) := by decide +kernel
theorem dX8_odds_163 : decode cX8_odds 163 = .ok (.iload 7, 2) := by decide +kernel
theorem dX8_odds_165 : decode cX8_odds 165 = .ok (.iload 8, 2) := by decide +kernel
theorem dX8_odds_167 : decode cX8_odds 167 = .ok (.irem, 1) := by decide +kernel
theorem dX8_odds_168 : decode cX8_odds 168 = .ok (.istore 9, 2) := by decide +kernel
theorem dX8_odds_170 : decode cX8_odds 170 = .ok (.iload 8, 2) := by decide +kernel
theorem dX8_odds_172 : decode cX8_odds 172 = .ok (.istore 7, 2) := by decide +kernel
theorem dX8_odds_174 : decode cX8_odds 174 = .ok (.iload 9, 2) := by decide +kernel
theorem dX8_odds_176 : decode cX8_odds 176 = .ok (.istore 8, 2) := by decide +kernel
theorem dX8_odds_178 : decode cX8_odds 178 = .ok (.goto (-20), 3) := by decide +kernel
theorem dX8_odds_181 : decode cX8_odds 181 = .ok (.iload_n 3, 1) := by decide +kernel
theorem dX8_odds_182 : decode cX8_odds 182 = .ok (.ifCond .ne 11, 3) := by decide +kernel
theorem dX8_odds_185 : decode cX8_odds 185 = .ok (.iload 5, 2) := by decide +kernel
theorem dX8_odds_187 : decode cX8_odds 187 = .ok (.iload 7, 2) := by decide +kernel
theorem dX8_odds_189 : decode cX8_odds 189 = .ok (.idiv, 1) := by decide +kernel
theorem dX8_odds_190 : decode cX8_odds 190 = .ok (.goto 8, 3) := by decide +kernel
theorem dX8_odds_193 : decode cX8_odds 193 = .ok (.iload 6, 2) := by decide +kernel
theorem dX8_odds_195 : decode cX8_odds 195 = .ok (.iload 7, 2) := by decide +kernel
theorem dX8_odds_197 : decode cX8_odds 197 = .ok (.idiv, 1) := by decide +kernel
theorem dX8_odds_198 : decode cX8_odds 198 = .ok (.ireturn, 1) := by decide +kernel
theorem dX8_rate_0 : decode cX8_rate 0 = .ok (.iload_n 1, 1) := by decide +kernel
theorem dX8_rate_1 : decode cX8_rate 1 = .ok (.iconst 0, 1) := by decide +kernel
theorem dX8_rate_2 : decode cX8_rate 2 = .ok (.iconst 5, 1) := by decide +kernel
theorem dX8_rate_3 : decode cX8_rate 3 = .ok (.invokestatic 51, 3) := by decide +kernel
theorem dX8_rate_6 : decode cX8_rate 6 = .ok (.ifCond .eq 11, 3) := by decide +kernel
theorem dX8_rate_9 : decode cX8_rate 9 = .ok (.aload_n 0, 1) := by decide +kernel
theorem dX8_rate_10 : decode cX8_rate 10 = .ok (.iload_n 2, 1) := by decide +kernel
theorem dX8_rate_11 : decode cX8_rate 11 = .ok (.invokevirtual 104, 3) := by decide +kernel
theorem dX8_rate_14 : decode cX8_rate 14 = .ok (.ifCond .ne 6, 3) := by decide +kernel
theorem dX8_rate_17 : decode cX8_rate 17 = .ok (.ldc 148, 2) := by decide +kernel
theorem dX8_rate_19 : decode cX8_rate 19 = .ok (.ireturn, 1) := by decide +kernel
theorem dX8_rate_20 : decode cX8_rate 20 = .ok (.aload_n 0, 1) := by decide +kernel
theorem dX8_rate_21 : decode cX8_rate 21 = .ok (.dup, 1) := by decide +kernel
theorem dX8_rate_22 : decode cX8_rate 22 = .ok (.getfield 149, 3) := by decide +kernel
theorem dX8_rate_25 : decode cX8_rate 25 = .ok (.iload_n 1, 1) := by decide +kernel
theorem dX8_rate_26 : decode cX8_rate 26 = .ok (.ifCond .ne 7, 3) := by decide +kernel
theorem dX8_rate_29 : decode cX8_rate 29 = .ok (.lconst 1, 1) := by decide +kernel
theorem dX8_rate_30 : decode cX8_rate 30 = .ok (.goto 50, 3) := by decide +kernel
theorem dX8_rate_33 : decode cX8_rate 33 = .ok (.iload_n 1, 1) := by decide +kernel
theorem dX8_rate_34 : decode cX8_rate 34 = .ok (.iconst 1, 1) := by decide +kernel
theorem dX8_rate_35 : decode cX8_rate 35 = .ok (.if_icmp .ne 9, 3) := by decide +kernel
theorem dX8_rate_38 : decode cX8_rate 38 = .ok (.ldc2_w 153, 3) := by decide +kernel
theorem dX8_rate_41 : decode cX8_rate 41 = .ok (.goto 39, 3) := by decide +kernel
theorem dX8_rate_44 : decode cX8_rate 44 = .ok (.iload_n 1, 1) := by decide +kernel
theorem dX8_rate_45 : decode cX8_rate 45 = .ok (.iconst 2, 1) := by decide +kernel
theorem dX8_rate_46 : decode cX8_rate 46 = .ok (.if_icmp .ne 9, 3) := by decide +kernel
theorem dX8_rate_49 : decode cX8_rate 49 = .ok (.ldc2_w 155, 3) := by decide +kernel
theorem dX8_rate_52 : decode cX8_rate 52 = .ok (.goto 28, 3) := by decide +kernel
theorem dX8_rate_55 : decode cX8_rate 55 = .ok (.iload_n 1, 1) := by decide +kernel
theorem dX8_rate_56 : decode cX8_rate 56 = .ok (.iconst 3, 1) := by decide +kernel
theorem dX8_rate_57 : decode cX8_rate 57 = .ok (.if_icmp .ne 9, 3) := by decide +kernel
theorem dX8_rate_60 : decode cX8_rate 60 = .ok (.ldc2_w 157, 3) := by decide +kernel
theorem dX8_rate_63 : decode cX8_rate 63 = .ok (.goto 17, 3) := by decide +kernel
theorem dX8_rate_66 : decode cX8_rate 66 = .ok (.iload_n 1, 1) := by decide +kernel
theorem dX8_rate_67 : decode cX8_rate 67 = .ok (.iconst 4, 1) := by decide +kernel
theorem dX8_rate_68 : decode cX8_rate 68 = .ok (.if_icmp .ne 9, 3) := by decide +kernel
theorem dX8_rate_71 : decode cX8_rate 71 = .ok (.ldc2_w 159, 3) := by decide +kernel
theorem dX8_rate_74 : decode cX8_rate 74 = .ok (.goto 6, 3) := by decide +kernel
theorem dX8_rate_77 : decode cX8_rate 77 = .ok (.ldc2_w 161, 3) := by decide +kernel
theorem dX8_rate_80 : decode cX8_rate 80 = .ok (.ladd, 1) := by decide +kernel
theorem dX8_rate_81 : decode cX8_rate 81 = .ok (.putfield 149, 3) := by decide +kernel
theorem dX8_rate_84 : decode cX8_rate 84 = .ok (.aload_n 0, 1) := by decide +kernel
theorem dX8_rate_85 : decode cX8_rate 85 = .ok (.iload_n 2, 1) := by decide +kernel
theorem dX8_rate_86 : decode cX8_rate 86 = .ok (.invokevirtual 98, 3) := by decide +kernel
theorem dX8_rate_89 : decode cX8_rate 89 = .ok (.istore_n 3, 1) := by decide +kernel
theorem dX8_rate_90 : decode cX8_rate 90 = .ok (.iload_n 3, 1) := by decide +kernel
theorem dX8_rate_91 : decode cX8_rate 91 = .ok (.aload_n 0, 1) := by decide +kernel
theorem dX8_rate_92 : decode cX8_rate 92 = .ok (.getfield 13, 3) := by decide +kernel
theorem dX8_rate_95 : decode cX8_rate 95 = .ok (.bipush 19, 2) := by decide +kernel
theorem dX8_rate_97 : decode cX8_rate 97 = .ok (.iload_n 2, 1) := by decide +kernel
theorem dX8_rate_98 : decode cX8_rate 98 = .ok (.iadd, 1) := by decide +kernel
theorem dX8_rate_99 : decode cX8_rate 99 = .ok (.iaload, 1) := by decide +kernel
theorem dX8_rate_100 : decode cX8_rate 100 = .ok (.iadd, 1) := by decide +kernel
theorem dX8_rate_101 : decode cX8_rate 101 = .ok (.istore 4, 2) := by decide +kernel
theorem dX8_rate_103 : decode cX8_rate 103 = .ok (.iload_n 3, 1) := by decide +kernel
theorem dX8_rate_104 : decode cX8_rate 104 = .ok (.aload_n 0, 1) := by decide +kernel
theorem dX8_rate_105 : decode cX8_rate 105 = .ok (.getfield 13, 3) := by decide +kernel
theorem dX8_rate_108 : decode cX8_rate 108 = .ok (.iconst 5, 1) := by decide +kernel
theorem dX8_rate_109 : decode cX8_rate 109 = .ok (.iload_n 2, 1) := by decide +kernel
theorem dX8_rate_110 : decode cX8_rate 110 = .ok (.iadd, 1) := by decide +kernel
theorem dX8_rate_111 : decode cX8_rate 111 = .ok (.iaload, 1) := by decide +kernel
theorem dX8_rate_112 : decode cX8_rate 112 = .ok (.isub, 1) := by decide +kernel
theorem dX8_rate_113 : decode cX8_rate 113 = .ok (.istore 5, 2) := by decide +kernel
theorem dX8_rate_115 : decode cX8_rate 115 = .ok (.iload_n 1, 1) := by decide +kernel
theorem dX8_rate_116 : decode cX8_rate 116 = .ok (.ifCond .ne 7, 3) := by decide +kernel
theorem dX8_rate_119 : decode cX8_rate 119 = .ok (.iload_n 3, 1) := by decide +kernel
theorem dX8_rate_120 : decode cX8_rate 120 = .ok (.goto 56, 3) := by decide +kernel
theorem dX8_rate_123 : decode cX8_rate 123 = .ok (.iload_n 1, 1) := by decide +kernel
theorem dX8_rate_124 : decode cX8_rate 124 = .ok (.iconst 1, 1) := by decide +kernel
theorem dX8_rate_125 : decode cX8_rate 125 = .ok (.if_icmp .ne 8, 3) := by decide +kernel
theorem dX8_rate_128 : decode cX8_rate 128 = .ok (.iload 4, 2) := by decide +kernel
theorem dX8_rate_130 : decode cX8_rate 130 = .ok (.goto 46, 3) := by decide +kernel
theorem dX8_rate_133 : decode cX8_rate 133 = .ok (.iload_n 1, 1) := by decide +kernel
theorem dX8_rate_134 : decode cX8_rate 134 = .ok (.iconst 2, 1) := by decide +kernel
theorem dX8_rate_135 : decode cX8_rate 135 = .ok (.if_icmp .ne 8, 3) := by decide +kernel
theorem dX8_rate_138 : decode cX8_rate 138 = .ok (.iload 5, 2) := by decide +kernel
theorem dX8_rate_140 : decode cX8_rate 140 = .ok (.goto 36, 3) := by decide +kernel
theorem dX8_rate_143 : decode cX8_rate 143 = .ok (.iload_n 1, 1) := by decide +kernel
theorem dX8_rate_144 : decode cX8_rate 144 = .ok (.iconst 3, 1) := by decide +kernel
theorem dX8_rate_145 : decode cX8_rate 145 = .ok (.if_icmp .ne 10, 3) := by decide +kernel
theorem dX8_rate_148 : decode cX8_rate 148 = .ok (.iconst 2, 1) := by decide +kernel
theorem dX8_rate_149 : decode cX8_rate 149 = .ok (.iload 4, 2) := by decide +kernel
theorem dX8_rate_151 : decode cX8_rate 151 = .ok (.imul, 1) := by decide +kernel
theorem dX8_rate_152 : decode cX8_rate 152 = .ok (.goto 24, 3) := by decide +kernel
theorem dX8_rate_155 : decode cX8_rate 155 = .ok (.iload_n 1, 1) := by decide +kernel
theorem dX8_rate_156 : decode cX8_rate 156 = .ok (.iconst 4, 1) := by decide +kernel
theorem dX8_rate_157 : decode cX8_rate 157 = .ok (.if_icmp .ne 10, 3) := by decide +kernel
theorem dX8_rate_160 : decode cX8_rate 160 = .ok (.iload 5, 2) := by decide +kernel
theorem dX8_rate_162 : decode cX8_rate 162 = .ok (.iload_n 2, 1) := by decide +kernel
theorem dX8_rate_163 : decode cX8_rate 163 = .ok (.iadd, 1) := by decide +kernel
theorem dX8_rate_164 : decode cX8_rate 164 = .ok (.goto 12, 3) := by decide +kernel
theorem dX8_rate_167 : decode cX8_rate 167 = .ok (.iload_n 3, 1) := by decide +kernel
theorem dX8_rate_168 : decode cX8_rate 168 = .ok (.aload_n 0, 1) := by decide +kernel
theorem dX8_rate_169 : decode cX8_rate 169 = .ok (.getfield 19, 3) := by decide +kernel
theorem dX8_rate_172 : decode cX8_rate 172 = .ok (.bipush 49, 2) := by decide +kernel
theorem dX8_rate_174 : decode cX8_rate 174 = .ok (.iaload, 1) := by decide +kernel
theorem dX8_rate_175 : decode cX8_rate 175 = .ok (.iadd, 1) := by decide +kernel
theorem dX8_rate_176 : decode cX8_rate 176 = .ok (.ireturn, 1) := by decide +kernel
theorem dX8_keep_0 : decode cX8_keep 0 = .ok (.iload_n 1, 1) := by decide +kernel
theorem dX8_keep_1 : decode cX8_keep 1 = .ok (.iconst 0, 1) := by decide +kernel
theorem dX8_keep_2 : decode cX8_keep 2 = .ok (.iconst 1, 1) := by decide +kernel
theorem dX8_keep_3 : decode cX8_keep 3 = .ok (.invokestatic 51, 3) := by decide +kernel
theorem dX8_keep_6 : decode cX8_keep 6 = .ok (.ifCond .ne 5, 3) := by decide +kernel
theorem dX8_keep_9 : decode cX8_keep 9 = .ok (.iconst (-1), 1) := by decide +kernel
theorem dX8_keep_10 : decode cX8_keep 10 = .ok (.ireturn, 1) := by decide +kernel
theorem dX8_keep_11 : decode cX8_keep 11 = .ok (.iconst 0, 1) := by decide +kernel
theorem dX8_keep_12 : decode cX8_keep 12 = .ok (.istore_n 2, 1) := by decide +kernel
theorem dX8_keep_13 : decode cX8_keep 13 = .ok (.iload_n 2, 1) := by decide +kernel
theorem dX8_keep_14 : decode cX8_keep 14 = .ok (.bipush 51, 2) := by decide +kernel
theorem dX8_keep_16 : decode cX8_keep 16 = .ok (.if_icmp .ge 26, 3) := by decide +kernel
theorem dX8_keep_19 : decode cX8_keep 19 = .ok (.aload_n 0, 1) := by decide +kernel
theorem dX8_keep_20 : decode cX8_keep 20 = .ok (.getfield 25, 3) := by decide +kernel
theorem dX8_keep_23 : decode cX8_keep 23 = .ok (.bipush 51, 2) := by decide +kernel
theorem dX8_keep_25 : decode cX8_keep 25 = .ok (.iload_n 1, 1) := by decide +kernel
theorem dX8_keep_26 : decode cX8_keep 26 = .ok (.imul, 1) := by decide +kernel
theorem dX8_keep_27 : decode cX8_keep 27 = .ok (.iload_n 2, 1) := by decide +kernel
theorem dX8_keep_28 : decode cX8_keep 28 = .ok (.iadd, 1) := by decide +kernel
theorem dX8_keep_29 : decode cX8_keep 29 = .ok (.aload_n 0, 1) := by decide +kernel
theorem dX8_keep_30 : decode cX8_keep 30 = .ok (.getfield 19, 3) := by decide +kernel
theorem dX8_keep_33 : decode cX8_keep 33 = .ok (.iload_n 2, 1) := by decide +kernel
theorem dX8_keep_34 : decode cX8_keep 34 = .ok (.iaload, 1) := by decide +kernel
theorem dX8_keep_35 : decode cX8_keep 35 = .ok (.iastore, 1) := by decide +kernel
theorem dX8_keep_36 : decode cX8_keep 36 = .ok (.iinc 2 1, 3) := by decide +kernel
theorem dX8_keep_39 : decode cX8_keep 39 = .ok (.goto (-26), 3) := by decide +kernel
theorem dX8_keep_42 : decode cX8_keep 42 = .ok (.aload_n 0, 1) := by decide +kernel
theorem dX8_keep_43 : decode cX8_keep 43 = .ok (.getfield 28, 3) := by decide +kernel
theorem dX8_keep_46 : decode cX8_keep 46 = .ok (.iload_n 1, 1) := by decide +kernel
theorem dX8_keep_47 : decode cX8_keep 47 = .ok (.iconst 1, 1) := by decide +kernel
theorem dX8_keep_48 : decode cX8_keep 48 = .ok (.bastore, 1) := by decide +kernel
theorem dX8_keep_49 : decode cX8_keep 49 = .ok (.aload_n 0, 1) := by decide +kernel
theorem dX8_keep_50 : decode cX8_keep 50 = .ok (.getfield 19, 3) := by decide +kernel
theorem dX8_keep_53 : decode cX8_keep 53 = .ok (.bipush 49, 2) := by decide +kernel
theorem dX8_keep_55 : decode cX8_keep 55 = .ok (.iaload, 1) := by decide +kernel
theorem dX8_keep_56 : decode cX8_keep 56 = .ok (.ireturn, 1) := by decide +kernel
theorem dX8_back_0 : decode cX8_back 0 = .ok (.iload_n 1, 1) := by decide +kernel
theorem dX8_back_1 : decode cX8_back 1 = .ok (.iconst 0, 1) := by decide +kernel
theorem dX8_back_2 : decode cX8_back 2 = .ok (.iconst 1, 1) := by decide +kernel
theorem dX8_back_3 : decode cX8_back 3 = .ok (.invokestatic 51, 3) := by decide +kernel
theorem dX8_back_6 : decode cX8_back 6 = .ok (.ifCond .ne 5, 3) := by decide +kernel
theorem dX8_back_9 : decode cX8_back 9 = .ok (.iconst (-1), 1) := by decide +kernel
theorem dX8_back_10 : decode cX8_back 10 = .ok (.ireturn, 1) := by decide +kernel
theorem dX8_back_11 : decode cX8_back 11 = .ok (.aload_n 0, 1) := by decide +kernel
theorem dX8_back_12 : decode cX8_back 12 = .ok (.getfield 28, 3) := by decide +kernel
theorem dX8_back_15 : decode cX8_back 15 = .ok (.iload_n 1, 1) := by decide +kernel
theorem dX8_back_16 : decode cX8_back 16 = .ok (.baload, 1) := by decide +kernel
theorem dX8_back_17 : decode cX8_back 17 = .ok (.ifCond .ne 6, 3) := by decide +kernel
theorem dX8_back_20 : decode cX8_back 20 = .ok (.bipush (-2), 2) := by decide +kernel
theorem dX8_back_22 : decode cX8_back 22 = .ok (.ireturn, 1) := by decide +kernel
theorem dX8_back_23 : decode cX8_back 23 = .ok (.iconst 0, 1) := by decide +kernel
theorem dX8_back_24 : decode cX8_back 24 = .ok (.istore_n 2, 1) := by decide +kernel
theorem dX8_back_25 : decode cX8_back 25 = .ok (.iload_n 2, 1) := by decide +kernel
theorem dX8_back_26 : decode cX8_back 26 = .ok (.bipush 51, 2) := by decide +kernel
theorem dX8_back_28 : decode cX8_back 28 = .ok (.if_icmp .ge 26, 3) := by decide +kernel
theorem dX8_back_31 : decode cX8_back 31 = .ok (.aload_n 0, 1) := by decide +kernel
theorem dX8_back_32 : decode cX8_back 32 = .ok (.getfield 19, 3) := by decide +kernel
theorem dX8_back_35 : decode cX8_back 35 = .ok (.iload_n 2, 1) := by decide +kernel
theorem dX8_back_36 : decode cX8_back 36 = .ok (.aload_n 0, 1) := by decide +kernel
theorem dX8_back_37 : decode cX8_back 37 = .ok (.getfield 25, 3) := by decide +kernel
theorem dX8_back_40 : decode cX8_back 40 = .ok (.bipush 51, 2) := by decide +kernel
theorem dX8_back_42 : decode cX8_back 42 = .ok (.iload_n 1, 1) := by decide +kernel
theorem dX8_back_43 : decode cX8_back 43 = .ok (.imul, 1) := by decide +kernel
theorem dX8_back_44 : decode cX8_back 44 = .ok (.iload_n 2, 1) := by decide +kernel
theorem dX8_back_45 : decode cX8_back 45 = .ok (.iadd, 1) := by decide +kernel
theorem dX8_back_46 : decode cX8_back 46 = .ok (.iaload, 1) := by decide +kernel
theorem dX8_back_47 : decode cX8_back 47 = .ok (.iastore, 1) := by decide +kernel
theorem dX8_back_48 : decode cX8_back 48 = .ok (.iinc 2 1, 3) := by decide +kernel
theorem dX8_back_51 : decode cX8_back 51 = .ok (.goto (-26), 3) := by decide +kernel
theorem dX8_back_54 : decode cX8_back 54 = .ok (.aload_n 0, 1) := by decide +kernel
theorem dX8_back_55 : decode cX8_back 55 = .ok (.iconst 0, 1) := by decide +kernel
theorem dX8_back_56 : decode cX8_back 56 = .ok (.putfield 92, 3) := by decide +kernel
theorem dX8_back_59 : decode cX8_back 59 = .ok (.aload_n 0, 1) := by decide +kernel
theorem dX8_back_60 : decode cX8_back 60 = .ok (.getfield 19, 3) := by decide +kernel
theorem dX8_back_63 : decode cX8_back 63 = .ok (.bipush 49, 2) := by decide +kernel
theorem dX8_back_65 : decode cX8_back 65 = .ok (.iaload, 1) := by decide +kernel
theorem dX8_back_66 : decode cX8_back 66 = .ok (.ireturn, 1) := by decide +kernel
theorem dX8_count_0 : decode cX8_count 0 = .ok (.iload_n 1, 1) := by decide +kernel
theorem dX8_count_1 : decode cX8_count 1 = .ok (.tableswitch 66 0 4 #[35, 42, 49, 56, 61], 35) := by decide +kernel
theorem dX8_count_36 : decode cX8_count 36 = .ok (.aload_n 0, 1) := by decide +kernel
theorem dX8_count_37 : decode cX8_count 37 = .ok (.getfield 13, 3) := by decide +kernel
theorem dX8_count_40 : decode cX8_count 40 = .ok (.iconst 0, 1) := by decide +kernel
theorem dX8_count_41 : decode cX8_count 41 = .ok (.iaload, 1) := by decide +kernel
theorem dX8_count_42 : decode cX8_count 42 = .ok (.ireturn, 1) := by decide +kernel
theorem dX8_count_43 : decode cX8_count 43 = .ok (.aload_n 0, 1) := by decide +kernel
theorem dX8_count_44 : decode cX8_count 44 = .ok (.getfield 13, 3) := by decide +kernel
theorem dX8_count_47 : decode cX8_count 47 = .ok (.iconst 1, 1) := by decide +kernel
theorem dX8_count_48 : decode cX8_count 48 = .ok (.iaload, 1) := by decide +kernel
theorem dX8_count_49 : decode cX8_count 49 = .ok (.ireturn, 1) := by decide +kernel
theorem dX8_count_50 : decode cX8_count 50 = .ok (.aload_n 0, 1) := by decide +kernel
theorem dX8_count_51 : decode cX8_count 51 = .ok (.getfield 13, 3) := by decide +kernel
theorem dX8_count_54 : decode cX8_count 54 = .ok (.iconst 2, 1) := by decide +kernel
theorem dX8_count_55 : decode cX8_count 55 = .ok (.iaload, 1) := by decide +kernel
theorem dX8_count_56 : decode cX8_count 56 = .ok (.ireturn, 1) := by decide +kernel
theorem dX8_count_57 : decode cX8_count 57 = .ok (.aload_n 0, 1) := by decide +kernel
theorem dX8_count_58 : decode cX8_count 58 = .ok (.getfield 95, 3) := by decide +kernel
theorem dX8_count_61 : decode cX8_count 61 = .ok (.ireturn, 1) := by decide +kernel
theorem dX8_count_62 : decode cX8_count 62 = .ok (.aload_n 0, 1) := by decide +kernel
theorem dX8_count_63 : decode cX8_count 63 = .ok (.getfield 55, 3) := by decide +kernel
theorem dX8_count_66 : decode cX8_count 66 = .ok (.ireturn, 1) := by decide +kernel
theorem dX8_count_67 : decode cX8_count 67 = .ok (.iconst (-1), 1) := by decide +kernel
theorem dX8_count_68 : decode cX8_count 68 = .ok (.ireturn, 1) := by decide +kernel
theorem dX8_trace_0 : decode cX8_trace 0 = .ok (.aload_n 0, 1) := by decide +kernel
theorem dX8_trace_1 : decode cX8_trace 1 = .ok (.getfield 149, 3) := by decide +kernel
theorem dX8_trace_4 : decode cX8_trace 4 = .ok (.lreturn, 1) := by decide +kernel
end
section
theorem dL_law_0 : decode cL_law 0 = .ok (.new 7, 3) := by decide +kernel
theorem dL_law_3 : decode cL_law 3 = .ok (.dup, 1) := by decide +kernel
theorem dL_law_4 : decode cL_law 4 = .ok (.invokespecial 9, 3) := by decide +kernel
theorem dL_law_7 : decode cL_law 7 = .ok (.astore_n 1, 1) := by decide +kernel
theorem dL_law_8 : decode cL_law 8 = .ok (.new 10, 3) := by decide +kernel
theorem dL_law_11 : decode cL_law 11 = .ok (.dup, 1) := by decide +kernel
theorem dL_law_12 : decode cL_law 12 = .ok (.invokespecial 12, 3) := by decide +kernel
theorem dL_law_15 : decode cL_law 15 = .ok (.astore_n 2, 1) := by decide +kernel
theorem dL_law_16 : decode cL_law 16 = .ok (.iconst 0, 1) := by decide +kernel
theorem dL_law_17 : decode cL_law 17 = .ok (.istore_n 3, 1) := by decide +kernel
theorem dL_law_18 : decode cL_law 18 = .ok (.iload_n 3, 1) := by decide +kernel
theorem dL_law_19 : decode cL_law 19 = .ok (.aload_n 0, 1) := by decide +kernel
theorem dL_law_20 : decode cL_law 20 = .ok (.arraylength, 1) := by decide +kernel
theorem dL_law_21 : decode cL_law 21 = .ok (.iconst 4, 1) := by decide +kernel
theorem dL_law_22 : decode cL_law 22 = .ok (.isub, 1) := by decide +kernel
theorem dL_law_23 : decode cL_law 23 = .ok (.if_icmp .gt 831, 3) := by decide +kernel
theorem dL_law_26 : decode cL_law 26 = .ok (.aload_n 0, 1) := by decide +kernel
theorem dL_law_27 : decode cL_law 27 = .ok (.iload_n 3, 1) := by decide +kernel
theorem dL_law_28 : decode cL_law 28 = .ok (.iaload, 1) := by decide +kernel
theorem dL_law_29 : decode cL_law 29 = .ok (.bipush 31, 2) := by decide +kernel
theorem dL_law_31 : decode cL_law 31 = .ok (.iand, 1) := by decide +kernel
theorem dL_law_32 : decode cL_law 32 = .ok (.tableswitch 816 0 26 #[124, 147, 160, 173, 206, 239, 262, 295, 338, 351, 374, 387, 410, 443, 476, 499, 542, 585, 598, 621, 634, 657, 700, 733, 756, 779, 802], 124) := by decide +kernel
theorem dL_law_156 : decode cL_law 156 = .ok (.aload_n 1, 1) := by decide +kernel
theorem dL_law_157 : decode cL_law 157 = .ok (.aload_n 0, 1) := by decide +kernel
theorem dL_law_158 : decode cL_law 158 = .ok (.iload_n 3, 1) := by decide +kernel
theorem dL_law_159 : decode cL_law 159 = .ok (.iconst 1, 1) := by decide +kernel
theorem dL_law_160 : decode cL_law 160 = .ok (.iadd, 1) := by decide +kernel
theorem dL_law_161 : decode cL_law 161 = .ok (.iaload, 1) := by decide +kernel
theorem dL_law_162 : decode cL_law 162 = .ok (.invokevirtual 13, 3) := by decide +kernel
theorem dL_law_165 : decode cL_law 165 = .ok (.aload_n 2, 1) := by decide +kernel
theorem dL_law_166 : decode cL_law 166 = .ok (.aload_n 0, 1) := by decide +kernel
theorem dL_law_167 : decode cL_law 167 = .ok (.iload_n 3, 1) := by decide +kernel
theorem dL_law_168 : decode cL_law 168 = .ok (.iconst 1, 1) := by decide +kernel
theorem dL_law_169 : decode cL_law 169 = .ok (.iadd, 1) := by decide +kernel
theorem dL_law_170 : decode cL_law 170 = .ok (.iaload, 1) := by decide +kernel
theorem dL_law_171 : decode cL_law 171 = .ok (.invokevirtual 17, 3) := by decide +kernel
theorem dL_law_174 : decode cL_law 174 = .ok (.if_icmp .eq 674, 3) := by decide +kernel
theorem dL_law_177 : decode cL_law 177 = .ok (.iconst 0, 1) := by decide +kernel
theorem dL_law_178 : decode cL_law 178 = .ok (.ireturn, 1) := by decide +kernel
theorem dL_law_179 : decode cL_law 179 = .ok (.aload_n 1, 1) := by decide +kernel
theorem dL_law_180 : decode cL_law 180 = .ok (.invokevirtual 18, 3) := by decide +kernel
theorem dL_law_183 : decode cL_law 183 = .ok (.aload_n 2, 1) := by decide +kernel
theorem dL_law_184 : decode cL_law 184 = .ok (.invokevirtual 22, 3) := by decide +kernel
theorem dL_law_187 : decode cL_law 187 = .ok (.if_icmp .eq 661, 3) := by decide +kernel
theorem dL_law_190 : decode cL_law 190 = .ok (.iconst 0, 1) := by decide +kernel
theorem dL_law_191 : decode cL_law 191 = .ok (.ireturn, 1) := by decide +kernel
theorem dL_law_192 : decode cL_law 192 = .ok (.aload_n 1, 1) := by decide +kernel
theorem dL_law_193 : decode cL_law 193 = .ok (.invokevirtual 23, 3) := by decide +kernel
theorem dL_law_196 : decode cL_law 196 = .ok (.aload_n 2, 1) := by decide +kernel
theorem dL_law_197 : decode cL_law 197 = .ok (.invokevirtual 26, 3) := by decide +kernel
theorem dL_law_200 : decode cL_law 200 = .ok (.if_icmp .eq 648, 3) := by decide +kernel
theorem dL_law_203 : decode cL_law 203 = .ok (.iconst 0, 1) := by decide +kernel
theorem dL_law_204 : decode cL_law 204 = .ok (.ireturn, 1) := by decide +kernel
theorem dL_law_205 : decode cL_law 205 = .ok (.aload_n 1, 1) := by decide +kernel
theorem dL_law_206 : decode cL_law 206 = .ok (.aload_n 0, 1) := by decide +kernel
theorem dL_law_207 : decode cL_law 207 = .ok (.iload_n 3, 1) := by decide +kernel
theorem dL_law_208 : decode cL_law 208 = .ok (.iconst 1, 1) := by decide +kernel
theorem dL_law_209 : decode cL_law 209 = .ok (.iadd, 1) := by decide +kernel
theorem dL_law_210 : decode cL_law 210 = .ok (.iaload, 1) := by decide +kernel
theorem dL_law_211 : decode cL_law 211 = .ok (.aload_n 0, 1) := by decide +kernel
theorem dL_law_212 : decode cL_law 212 = .ok (.iload_n 3, 1) := by decide +kernel
theorem dL_law_213 : decode cL_law 213 = .ok (.iconst 2, 1) := by decide +kernel
theorem dL_law_214 : decode cL_law 214 = .ok (.iadd, 1) := by decide +kernel
theorem dL_law_215 : decode cL_law 215 = .ok (.iaload, 1) := by decide +kernel
theorem dL_law_216 : decode cL_law 216 = .ok (.invokevirtual 27, 3) := by decide +kernel
theorem dL_law_219 : decode cL_law 219 = .ok (.aload_n 2, 1) := by decide +kernel
theorem dL_law_220 : decode cL_law 220 = .ok (.aload_n 0, 1) := by decide +kernel
theorem dL_law_221 : decode cL_law 221 = .ok (.iload_n 3, 1) := by decide +kernel
theorem dL_law_222 : decode cL_law 222 = .ok (.iconst 1, 1) := by decide +kernel
theorem dL_law_223 : decode cL_law 223 = .ok (.iadd, 1) := by decide +kernel
theorem dL_law_224 : decode cL_law 224 = .ok (.iaload, 1) := by decide +kernel
theorem dL_law_225 : decode cL_law 225 = .ok (.aload_n 0, 1) := by decide +kernel
theorem dL_law_226 : decode cL_law 226 = .ok (.iload_n 3, 1) := by decide +kernel
theorem dL_law_227 : decode cL_law 227 = .ok (.iconst 2, 1) := by decide +kernel
theorem dL_law_228 : decode cL_law 228 = .ok (.iadd, 1) := by decide +kernel
theorem dL_law_229 : decode cL_law 229 = .ok (.iaload, 1) := by decide +kernel
theorem dL_law_230 : decode cL_law 230 = .ok (.invokevirtual 31, 3) := by decide +kernel
theorem dL_law_233 : decode cL_law 233 = .ok (.if_icmp .eq 615, 3) := by decide +kernel
theorem dL_law_236 : decode cL_law 236 = .ok (.iconst 0, 1) := by decide +kernel
theorem dL_law_237 : decode cL_law 237 = .ok (.ireturn, 1) := by decide +kernel
theorem dL_law_238 : decode cL_law 238 = .ok (.aload_n 1, 1) := by decide +kernel
theorem dL_law_239 : decode cL_law 239 = .ok (.aload_n 0, 1) := by decide +kernel
theorem dL_law_240 : decode cL_law 240 = .ok (.iload_n 3, 1) := by decide +kernel
theorem dL_law_241 : decode cL_law 241 = .ok (.iconst 1, 1) := by decide +kernel
theorem dL_law_242 : decode cL_law 242 = .ok (.iadd, 1) := by decide +kernel
theorem dL_law_243 : decode cL_law 243 = .ok (.iaload, 1) := by decide +kernel
theorem dL_law_244 : decode cL_law 244 = .ok (.aload_n 0, 1) := by decide +kernel
theorem dL_law_245 : decode cL_law 245 = .ok (.iload_n 3, 1) := by decide +kernel
theorem dL_law_246 : decode cL_law 246 = .ok (.iconst 2, 1) := by decide +kernel
theorem dL_law_247 : decode cL_law 247 = .ok (.iadd, 1) := by decide +kernel
theorem dL_law_248 : decode cL_law 248 = .ok (.iaload, 1) := by decide +kernel
theorem dL_law_249 : decode cL_law 249 = .ok (.invokevirtual 32, 3) := by decide +kernel
theorem dL_law_252 : decode cL_law 252 = .ok (.aload_n 2, 1) := by decide +kernel
theorem dL_law_253 : decode cL_law 253 = .ok (.aload_n 0, 1) := by decide +kernel
theorem dL_law_254 : decode cL_law 254 = .ok (.iload_n 3, 1) := by decide +kernel
theorem dL_law_255 : decode cL_law 255 = .ok (.iconst 1, 1) := by decide +kernel
theorem dL_law_256 : decode cL_law 256 = .ok (.iadd, 1) := by decide +kernel
theorem dL_law_257 : decode cL_law 257 = .ok (.iaload, 1) := by decide +kernel
theorem dL_law_258 : decode cL_law 258 = .ok (.aload_n 0, 1) := by decide +kernel
theorem dL_law_259 : decode cL_law 259 = .ok (.iload_n 3, 1) := by decide +kernel
theorem dL_law_260 : decode cL_law 260 = .ok (.iconst 2, 1) := by decide +kernel
theorem dL_law_261 : decode cL_law 261 = .ok (.iadd, 1) := by decide +kernel
theorem dL_law_262 : decode cL_law 262 = .ok (.iaload, 1) := by decide +kernel
theorem dL_law_263 : decode cL_law 263 = .ok (.invokevirtual 35, 3) := by decide +kernel
theorem dL_law_266 : decode cL_law 266 = .ok (.if_icmp .eq 582, 3) := by decide +kernel
theorem dL_law_269 : decode cL_law 269 = .ok (.iconst 0, 1) := by decide +kernel
theorem dL_law_270 : decode cL_law 270 = .ok (.ireturn, 1) := by decide +kernel
theorem dL_law_271 : decode cL_law 271 = .ok (.aload_n 1, 1) := by decide +kernel
theorem dL_law_272 : decode cL_law 272 = .ok (.aload_n 0, 1) := by decide +kernel
theorem dL_law_273 : decode cL_law 273 = .ok (.iload_n 3, 1) := by decide +kernel
theorem dL_law_274 : decode cL_law 274 = .ok (.iconst 1, 1) := by decide +kernel
theorem dL_law_275 : decode cL_law 275 = .ok (.iadd, 1) := by decide +kernel
theorem dL_law_276 : decode cL_law 276 = .ok (.iaload, 1) := by decide +kernel
theorem dL_law_277 : decode cL_law 277 = .ok (.invokevirtual 36, 3) := by decide +kernel
theorem dL_law_280 : decode cL_law 280 = .ok (.aload_n 2, 1) := by decide +kernel
theorem dL_law_281 : decode cL_law 281 = .ok (.aload_n 0, 1) := by decide +kernel
theorem dL_law_282 : decode cL_law 282 = .ok (.iload_n 3, 1) := by decide +kernel
theorem dL_law_283 : decode cL_law 283 = .ok (.iconst 1, 1) := by decide +kernel
theorem dL_law_284 : decode cL_law 284 = .ok (.iadd, 1) := by decide +kernel
theorem dL_law_285 : decode cL_law 285 = .ok (.iaload, 1) := by decide +kernel
theorem dL_law_286 : decode cL_law 286 = .ok (.invokevirtual 39, 3) := by decide +kernel
theorem dL_law_289 : decode cL_law 289 = .ok (.if_icmp .eq 559, 3) := by decide +kernel
theorem dL_law_292 : decode cL_law 292 = .ok (.iconst 0, 1) := by decide +kernel
theorem dL_law_293 : decode cL_law 293 = .ok (.ireturn, 1) := by decide +kernel
theorem dL_law_294 : decode cL_law 294 = .ok (.aload_n 1, 1) := by decide +kernel
theorem dL_law_295 : decode cL_law 295 = .ok (.aload_n 0, 1) := by decide +kernel
theorem dL_law_296 : decode cL_law 296 = .ok (.iload_n 3, 1) := by decide +kernel
theorem dL_law_297 : decode cL_law 297 = .ok (.iconst 1, 1) := by decide +kernel
theorem dL_law_298 : decode cL_law 298 = .ok (.iadd, 1) := by decide +kernel
theorem dL_law_299 : decode cL_law 299 = .ok (.iaload, 1) := by decide +kernel
theorem dL_law_300 : decode cL_law 300 = .ok (.aload_n 0, 1) := by decide +kernel
theorem dL_law_301 : decode cL_law 301 = .ok (.iload_n 3, 1) := by decide +kernel
theorem dL_law_302 : decode cL_law 302 = .ok (.iconst 2, 1) := by decide +kernel
theorem dL_law_303 : decode cL_law 303 = .ok (.iadd, 1) := by decide +kernel
theorem dL_law_304 : decode cL_law 304 = .ok (.iaload, 1) := by decide +kernel
theorem dL_law_305 : decode cL_law 305 = .ok (.invokevirtual 40, 3) := by decide +kernel
theorem dL_law_308 : decode cL_law 308 = .ok (.aload_n 2, 1) := by decide +kernel
theorem dL_law_309 : decode cL_law 309 = .ok (.aload_n 0, 1) := by decide +kernel
theorem dL_law_310 : decode cL_law 310 = .ok (.iload_n 3, 1) := by decide +kernel
theorem dL_law_311 : decode cL_law 311 = .ok (.iconst 1, 1) := by decide +kernel
theorem dL_law_312 : decode cL_law 312 = .ok (.iadd, 1) := by decide +kernel
theorem dL_law_313 : decode cL_law 313 = .ok (.iaload, 1) := by decide +kernel
theorem dL_law_314 : decode cL_law 314 = .ok (.aload_n 0, 1) := by decide +kernel
theorem dL_law_315 : decode cL_law 315 = .ok (.iload_n 3, 1) := by decide +kernel
theorem dL_law_316 : decode cL_law 316 = .ok (.iconst 2, 1) := by decide +kernel
theorem dL_law_317 : decode cL_law 317 = .ok (.iadd, 1) := by decide +kernel
theorem dL_law_318 : decode cL_law 318 = .ok (.iaload, 1) := by decide +kernel
theorem dL_law_319 : decode cL_law 319 = .ok (.invokevirtual 43, 3) := by decide +kernel
theorem dL_law_322 : decode cL_law 322 = .ok (.if_icmp .eq 526, 3) := by decide +kernel
theorem dL_law_325 : decode cL_law 325 = .ok (.iconst 0, 1) := by decide +kernel
theorem dL_law_326 : decode cL_law 326 = .ok (.ireturn, 1) := by decide +kernel
theorem dL_law_327 : decode cL_law 327 = .ok (.aload_n 1, 1) := by decide +kernel
theorem dL_law_328 : decode cL_law 328 = .ok (.aload_n 0, 1) := by decide +kernel
theorem dL_law_329 : decode cL_law 329 = .ok (.iload_n 3, 1) := by decide +kernel
theorem dL_law_330 : decode cL_law 330 = .ok (.iconst 1, 1) := by decide +kernel
theorem dL_law_331 : decode cL_law 331 = .ok (.iadd, 1) := by decide +kernel
theorem dL_law_332 : decode cL_law 332 = .ok (.iaload, 1) := by decide +kernel
theorem dL_law_333 : decode cL_law 333 = .ok (.aload_n 0, 1) := by decide +kernel
theorem dL_law_334 : decode cL_law 334 = .ok (.iload_n 3, 1) := by decide +kernel
theorem dL_law_335 : decode cL_law 335 = .ok (.iconst 2, 1) := by decide +kernel
theorem dL_law_336 : decode cL_law 336 = .ok (.iadd, 1) := by decide +kernel
theorem dL_law_337 : decode cL_law 337 = .ok (.iaload, 1) := by decide +kernel
theorem dL_law_338 : decode cL_law 338 = .ok (.aload_n 0, 1) := by decide +kernel
theorem dL_law_339 : decode cL_law 339 = .ok (.iload_n 3, 1) := by decide +kernel
theorem dL_law_340 : decode cL_law 340 = .ok (.iconst 3, 1) := by decide +kernel
theorem dL_law_341 : decode cL_law 341 = .ok (.iadd, 1) := by decide +kernel
theorem dL_law_342 : decode cL_law 342 = .ok (.iaload, 1) := by decide +kernel
theorem dL_law_343 : decode cL_law 343 = .ok (.invokevirtual 44, 3) := by decide +kernel
theorem dL_law_346 : decode cL_law 346 = .ok (.aload_n 2, 1) := by decide +kernel
theorem dL_law_347 : decode cL_law 347 = .ok (.aload_n 0, 1) := by decide +kernel
theorem dL_law_348 : decode cL_law 348 = .ok (.iload_n 3, 1) := by decide +kernel
theorem dL_law_349 : decode cL_law 349 = .ok (.iconst 1, 1) := by decide +kernel
theorem dL_law_350 : decode cL_law 350 = .ok (.iadd, 1) := by decide +kernel
theorem dL_law_351 : decode cL_law 351 = .ok (.iaload, 1) := by decide +kernel
theorem dL_law_352 : decode cL_law 352 = .ok (.aload_n 0, 1) := by decide +kernel
theorem dL_law_353 : decode cL_law 353 = .ok (.iload_n 3, 1) := by decide +kernel
theorem dL_law_354 : decode cL_law 354 = .ok (.iconst 2, 1) := by decide +kernel
theorem dL_law_355 : decode cL_law 355 = .ok (.iadd, 1) := by decide +kernel
theorem dL_law_356 : decode cL_law 356 = .ok (.iaload, 1) := by decide +kernel
theorem dL_law_357 : decode cL_law 357 = .ok (.aload_n 0, 1) := by decide +kernel
theorem dL_law_358 : decode cL_law 358 = .ok (.iload_n 3, 1) := by decide +kernel
theorem dL_law_359 : decode cL_law 359 = .ok (.iconst 3, 1) := by decide +kernel
theorem dL_law_360 : decode cL_law 360 = .ok (.iadd, 1) := by decide +kernel
theorem dL_law_361 : decode cL_law 361 = .ok (.iaload, 1) := by decide +kernel
theorem dL_law_362 : decode cL_law 362 = .ok (.invokevirtual 48, 3) := by decide +kernel
theorem dL_law_365 : decode cL_law 365 = .ok (.if_icmp .eq 483, 3) := by decide +kernel
theorem dL_law_368 : decode cL_law 368 = .ok (.iconst 0, 1) := by decide +kernel
theorem dL_law_369 : decode cL_law 369 = .ok (.ireturn, 1) := by decide +kernel
theorem dL_law_370 : decode cL_law 370 = .ok (.aload_n 1, 1) := by decide +kernel
theorem dL_law_371 : decode cL_law 371 = .ok (.invokevirtual 49, 3) := by decide +kernel
theorem dL_law_374 : decode cL_law 374 = .ok (.aload_n 2, 1) := by decide +kernel
theorem dL_law_375 : decode cL_law 375 = .ok (.invokevirtual 52, 3) := by decide +kernel
theorem dL_law_378 : decode cL_law 378 = .ok (.if_icmp .eq 470, 3) := by decide +kernel
theorem dL_law_381 : decode cL_law 381 = .ok (.iconst 0, 1) := by decide +kernel
theorem dL_law_382 : decode cL_law 382 = .ok (.ireturn, 1) := by decide +kernel
theorem dL_law_383 : decode cL_law 383 = .ok (.aload_n 1, 1) := by decide +kernel
theorem dL_law_384 : decode cL_law 384 = .ok (.aload_n 0, 1) := by decide +kernel
theorem dL_law_385 : decode cL_law 385 = .ok (.iload_n 3, 1) := by decide +kernel
theorem dL_law_386 : decode cL_law 386 = .ok (.iconst 1, 1) := by decide +kernel
theorem dL_law_387 : decode cL_law 387 = .ok (.iadd, 1) := by decide +kernel
theorem dL_law_388 : decode cL_law 388 = .ok (.iaload, 1) := by decide +kernel
theorem dL_law_389 : decode cL_law 389 = .ok (.invokevirtual 53, 3) := by decide +kernel
theorem dL_law_392 : decode cL_law 392 = .ok (.aload_n 2, 1) := by decide +kernel
theorem dL_law_393 : decode cL_law 393 = .ok (.aload_n 0, 1) := by decide +kernel
theorem dL_law_394 : decode cL_law 394 = .ok (.iload_n 3, 1) := by decide +kernel
theorem dL_law_395 : decode cL_law 395 = .ok (.iconst 1, 1) := by decide +kernel
theorem dL_law_396 : decode cL_law 396 = .ok (.iadd, 1) := by decide +kernel
theorem dL_law_397 : decode cL_law 397 = .ok (.iaload, 1) := by decide +kernel
theorem dL_law_398 : decode cL_law 398 = .ok (.invokevirtual 56, 3) := by decide +kernel
theorem dL_law_401 : decode cL_law 401 = .ok (.if_icmp .eq 447, 3) := by decide +kernel
theorem dL_law_404 : decode cL_law 404 = .ok (.iconst 0, 1) := by decide +kernel
theorem dL_law_405 : decode cL_law 405 = .ok (.ireturn, 1) := by decide +kernel
theorem dL_law_406 : decode cL_law 406 = .ok (.aload_n 1, 1) := by decide +kernel
theorem dL_law_407 : decode cL_law 407 = .ok (.invokevirtual 57, 3) := by decide +kernel
theorem dL_law_410 : decode cL_law 410 = .ok (.aload_n 2, 1) := by decide +kernel
theorem dL_law_411 : decode cL_law 411 = .ok (.invokevirtual 60, 3) := by decide +kernel
theorem dL_law_414 : decode cL_law 414 = .ok (.if_icmp .eq 434, 3) := by decide +kernel
theorem dL_law_417 : decode cL_law 417 = .ok (.iconst 0, 1) := by decide +kernel
theorem dL_law_418 : decode cL_law 418 = .ok (.ireturn, 1) := by decide +kernel
theorem dL_law_419 : decode cL_law 419 = .ok (.aload_n 1, 1) := by decide +kernel
theorem dL_law_420 : decode cL_law 420 = .ok (.aload_n 0, 1) := by decide +kernel
theorem dL_law_421 : decode cL_law 421 = .ok (.iload_n 3, 1) := by decide +kernel
theorem dL_law_422 : decode cL_law 422 = .ok (.iconst 1, 1) := by decide +kernel
theorem dL_law_423 : decode cL_law 423 = .ok (.iadd, 1) := by decide +kernel
theorem dL_law_424 : decode cL_law 424 = .ok (.iaload, 1) := by decide +kernel
theorem dL_law_425 : decode cL_law 425 = .ok (.invokevirtual 61, 3) := by decide +kernel
theorem dL_law_428 : decode cL_law 428 = .ok (.aload_n 2, 1) := by decide +kernel
theorem dL_law_429 : decode cL_law 429 = .ok (.aload_n 0, 1) := by decide +kernel
theorem dL_law_430 : decode cL_law 430 = .ok (.iload_n 3, 1) := by decide +kernel
theorem dL_law_431 : decode cL_law 431 = .ok (.iconst 1, 1) := by decide +kernel
theorem dL_law_432 : decode cL_law 432 = .ok (.iadd, 1) := by decide +kernel
theorem dL_law_433 : decode cL_law 433 = .ok (.iaload, 1) := by decide +kernel
theorem dL_law_434 : decode cL_law 434 = .ok (.invokevirtual 64, 3) := by decide +kernel
theorem dL_law_437 : decode cL_law 437 = .ok (.if_icmp .eq 411, 3) := by decide +kernel
theorem dL_law_440 : decode cL_law 440 = .ok (.iconst 0, 1) := by decide +kernel
theorem dL_law_441 : decode cL_law 441 = .ok (.ireturn, 1) := by decide +kernel
theorem dL_law_442 : decode cL_law 442 = .ok (.aload_n 1, 1) := by decide +kernel
theorem dL_law_443 : decode cL_law 443 = .ok (.aload_n 0, 1) := by decide +kernel
theorem dL_law_444 : decode cL_law 444 = .ok (.iload_n 3, 1) := by decide +kernel
theorem dL_law_445 : decode cL_law 445 = .ok (.iconst 1, 1) := by decide +kernel
theorem dL_law_446 : decode cL_law 446 = .ok (.iadd, 1) := by decide +kernel
theorem dL_law_447 : decode cL_law 447 = .ok (.iaload, 1) := by decide +kernel
theorem dL_law_448 : decode cL_law 448 = .ok (.aload_n 0, 1) := by decide +kernel
theorem dL_law_449 : decode cL_law 449 = .ok (.iload_n 3, 1) := by decide +kernel
theorem dL_law_450 : decode cL_law 450 = .ok (.iconst 2, 1) := by decide +kernel
theorem dL_law_451 : decode cL_law 451 = .ok (.iadd, 1) := by decide +kernel
theorem dL_law_452 : decode cL_law 452 = .ok (.iaload, 1) := by decide +kernel
theorem dL_law_453 : decode cL_law 453 = .ok (.invokevirtual 65, 3) := by decide +kernel
theorem dL_law_456 : decode cL_law 456 = .ok (.aload_n 2, 1) := by decide +kernel
theorem dL_law_457 : decode cL_law 457 = .ok (.aload_n 0, 1) := by decide +kernel
theorem dL_law_458 : decode cL_law 458 = .ok (.iload_n 3, 1) := by decide +kernel
theorem dL_law_459 : decode cL_law 459 = .ok (.iconst 1, 1) := by decide +kernel
theorem dL_law_460 : decode cL_law 460 = .ok (.iadd, 1) := by decide +kernel
theorem dL_law_461 : decode cL_law 461 = .ok (.iaload, 1) := by decide +kernel
theorem dL_law_462 : decode cL_law 462 = .ok (.aload_n 0, 1) := by decide +kernel
theorem dL_law_463 : decode cL_law 463 = .ok (.iload_n 3, 1) := by decide +kernel
theorem dL_law_464 : decode cL_law 464 = .ok (.iconst 2, 1) := by decide +kernel
theorem dL_law_465 : decode cL_law 465 = .ok (.iadd, 1) := by decide +kernel
theorem dL_law_466 : decode cL_law 466 = .ok (.iaload, 1) := by decide +kernel
theorem dL_law_467 : decode cL_law 467 = .ok (.invokevirtual 68, 3) := by decide +kernel
theorem dL_law_470 : decode cL_law 470 = .ok (.if_icmp .eq 378, 3) := by decide +kernel
theorem dL_law_473 : decode cL_law 473 = .ok (.iconst 0, 1) := by decide +kernel
theorem dL_law_474 : decode cL_law 474 = .ok (.ireturn, 1) := by decide +kernel
theorem dL_law_475 : decode cL_law 475 = .ok (.aload_n 1, 1) := by decide +kernel
theorem dL_law_476 : decode cL_law 476 = .ok (.aload_n 0, 1) := by decide +kernel
theorem dL_law_477 : decode cL_law 477 = .ok (.iload_n 3, 1) := by decide +kernel
theorem dL_law_478 : decode cL_law 478 = .ok (.iconst 1, 1) := by decide +kernel
theorem dL_law_479 : decode cL_law 479 = .ok (.iadd, 1) := by decide +kernel
theorem dL_law_480 : decode cL_law 480 = .ok (.iaload, 1) := by decide +kernel
theorem dL_law_481 : decode cL_law 481 = .ok (.aload_n 0, 1) := by decide +kernel
theorem dL_law_482 : decode cL_law 482 = .ok (.iload_n 3, 1) := by decide +kernel
theorem dL_law_483 : decode cL_law 483 = .ok (.iconst 2, 1) := by decide +kernel
theorem dL_law_484 : decode cL_law 484 = .ok (.iadd, 1) := by decide +kernel
theorem dL_law_485 : decode cL_law 485 = .ok (.iaload, 1) := by decide +kernel
theorem dL_law_486 : decode cL_law 486 = .ok (.invokevirtual 69, 3) := by decide +kernel
theorem dL_law_489 : decode cL_law 489 = .ok (.aload_n 2, 1) := by decide +kernel
theorem dL_law_490 : decode cL_law 490 = .ok (.aload_n 0, 1) := by decide +kernel
theorem dL_law_491 : decode cL_law 491 = .ok (.iload_n 3, 1) := by decide +kernel
theorem dL_law_492 : decode cL_law 492 = .ok (.iconst 1, 1) := by decide +kernel
theorem dL_law_493 : decode cL_law 493 = .ok (.iadd, 1) := by decide +kernel
theorem dL_law_494 : decode cL_law 494 = .ok (.iaload, 1) := by decide +kernel
theorem dL_law_495 : decode cL_law 495 = .ok (.aload_n 0, 1) := by decide +kernel
theorem dL_law_496 : decode cL_law 496 = .ok (.iload_n 3, 1) := by decide +kernel
theorem dL_law_497 : decode cL_law 497 = .ok (.iconst 2, 1) := by decide +kernel
theorem dL_law_498 : decode cL_law 498 = .ok (.iadd, 1) := by decide +kernel
theorem dL_law_499 : decode cL_law 499 = .ok (.iaload, 1) := by decide +kernel
theorem dL_law_500 : decode cL_law 500 = .ok (.invokevirtual 72, 3) := by decide +kernel
theorem dL_law_503 : decode cL_law 503 = .ok (.if_icmp .eq 345, 3) := by decide +kernel
theorem dL_law_506 : decode cL_law 506 = .ok (.iconst 0, 1) := by decide +kernel
theorem dL_law_507 : decode cL_law 507 = .ok (.ireturn, 1) := by decide +kernel
theorem dL_law_508 : decode cL_law 508 = .ok (.aload_n 1, 1) := by decide +kernel
theorem dL_law_509 : decode cL_law 509 = .ok (.aload_n 0, 1) := by decide +kernel
theorem dL_law_510 : decode cL_law 510 = .ok (.iload_n 3, 1) := by decide +kernel
theorem dL_law_511 : decode cL_law 511 = .ok (.iconst 1, 1) := by decide +kernel
theorem dL_law_512 : decode cL_law 512 = .ok (.iadd, 1) := by decide +kernel
theorem dL_law_513 : decode cL_law 513 = .ok (.iaload, 1) := by decide +kernel
theorem dL_law_514 : decode cL_law 514 = .ok (.invokevirtual 73, 3) := by decide +kernel
theorem dL_law_517 : decode cL_law 517 = .ok (.aload_n 2, 1) := by decide +kernel
theorem dL_law_518 : decode cL_law 518 = .ok (.aload_n 0, 1) := by decide +kernel
theorem dL_law_519 : decode cL_law 519 = .ok (.iload_n 3, 1) := by decide +kernel
theorem dL_law_520 : decode cL_law 520 = .ok (.iconst 1, 1) := by decide +kernel
theorem dL_law_521 : decode cL_law 521 = .ok (.iadd, 1) := by decide +kernel
theorem dL_law_522 : decode cL_law 522 = .ok (.iaload, 1) := by decide +kernel
theorem dL_law_523 : decode cL_law 523 = .ok (.invokevirtual 76, 3) := by decide +kernel
theorem dL_law_526 : decode cL_law 526 = .ok (.if_icmp .eq 322, 3) := by decide +kernel
theorem dL_law_529 : decode cL_law 529 = .ok (.iconst 0, 1) := by decide +kernel
theorem dL_law_530 : decode cL_law 530 = .ok (.ireturn, 1) := by decide +kernel
theorem dL_law_531 : decode cL_law 531 = .ok (.aload_n 1, 1) := by decide +kernel
theorem dL_law_532 : decode cL_law 532 = .ok (.aload_n 0, 1) := by decide +kernel
theorem dL_law_533 : decode cL_law 533 = .ok (.iload_n 3, 1) := by decide +kernel
theorem dL_law_534 : decode cL_law 534 = .ok (.iconst 1, 1) := by decide +kernel
theorem dL_law_535 : decode cL_law 535 = .ok (.iadd, 1) := by decide +kernel
theorem dL_law_536 : decode cL_law 536 = .ok (.iaload, 1) := by decide +kernel
theorem dL_law_537 : decode cL_law 537 = .ok (.aload_n 0, 1) := by decide +kernel
theorem dL_law_538 : decode cL_law 538 = .ok (.iload_n 3, 1) := by decide +kernel
theorem dL_law_539 : decode cL_law 539 = .ok (.iconst 2, 1) := by decide +kernel
theorem dL_law_540 : decode cL_law 540 = .ok (.iadd, 1) := by decide +kernel
theorem dL_law_541 : decode cL_law 541 = .ok (.iaload, 1) := by decide +kernel
theorem dL_law_542 : decode cL_law 542 = .ok (.aload_n 0, 1) := by decide +kernel
theorem dL_law_543 : decode cL_law 543 = .ok (.iload_n 3, 1) := by decide +kernel
theorem dL_law_544 : decode cL_law 544 = .ok (.iconst 3, 1) := by decide +kernel
theorem dL_law_545 : decode cL_law 545 = .ok (.iadd, 1) := by decide +kernel
theorem dL_law_546 : decode cL_law 546 = .ok (.iaload, 1) := by decide +kernel
theorem dL_law_547 : decode cL_law 547 = .ok (.invokevirtual 77, 3) := by decide +kernel
theorem dL_law_550 : decode cL_law 550 = .ok (.aload_n 2, 1) := by decide +kernel
theorem dL_law_551 : decode cL_law 551 = .ok (.aload_n 0, 1) := by decide +kernel
theorem dL_law_552 : decode cL_law 552 = .ok (.iload_n 3, 1) := by decide +kernel
theorem dL_law_553 : decode cL_law 553 = .ok (.iconst 1, 1) := by decide +kernel
theorem dL_law_554 : decode cL_law 554 = .ok (.iadd, 1) := by decide +kernel
theorem dL_law_555 : decode cL_law 555 = .ok (.iaload, 1) := by decide +kernel
theorem dL_law_556 : decode cL_law 556 = .ok (.aload_n 0, 1) := by decide +kernel
theorem dL_law_557 : decode cL_law 557 = .ok (.iload_n 3, 1) := by decide +kernel
theorem dL_law_558 : decode cL_law 558 = .ok (.iconst 2, 1) := by decide +kernel
theorem dL_law_559 : decode cL_law 559 = .ok (.iadd, 1) := by decide +kernel
theorem dL_law_560 : decode cL_law 560 = .ok (.iaload, 1) := by decide +kernel
theorem dL_law_561 : decode cL_law 561 = .ok (.aload_n 0, 1) := by decide +kernel
theorem dL_law_562 : decode cL_law 562 = .ok (.iload_n 3, 1) := by decide +kernel
theorem dL_law_563 : decode cL_law 563 = .ok (.iconst 3, 1) := by decide +kernel
theorem dL_law_564 : decode cL_law 564 = .ok (.iadd, 1) := by decide +kernel
theorem dL_law_565 : decode cL_law 565 = .ok (.iaload, 1) := by decide +kernel
theorem dL_law_566 : decode cL_law 566 = .ok (.invokevirtual 80, 3) := by decide +kernel
theorem dL_law_569 : decode cL_law 569 = .ok (.if_icmp .eq 279, 3) := by decide +kernel
theorem dL_law_572 : decode cL_law 572 = .ok (.iconst 0, 1) := by decide +kernel
theorem dL_law_573 : decode cL_law 573 = .ok (.ireturn, 1) := by decide +kernel
theorem dL_law_574 : decode cL_law 574 = .ok (.aload_n 1, 1) := by decide +kernel
theorem dL_law_575 : decode cL_law 575 = .ok (.aload_n 0, 1) := by decide +kernel
theorem dL_law_576 : decode cL_law 576 = .ok (.iload_n 3, 1) := by decide +kernel
theorem dL_law_577 : decode cL_law 577 = .ok (.iconst 1, 1) := by decide +kernel
theorem dL_law_578 : decode cL_law 578 = .ok (.iadd, 1) := by decide +kernel
theorem dL_law_579 : decode cL_law 579 = .ok (.iaload, 1) := by decide +kernel
theorem dL_law_580 : decode cL_law 580 = .ok (.aload_n 0, 1) := by decide +kernel
theorem dL_law_581 : decode cL_law 581 = .ok (.iload_n 3, 1) := by decide +kernel
theorem dL_law_582 : decode cL_law 582 = .ok (.iconst 2, 1) := by decide +kernel
theorem dL_law_583 : decode cL_law 583 = .ok (.iadd, 1) := by decide +kernel
theorem dL_law_584 : decode cL_law 584 = .ok (.iaload, 1) := by decide +kernel
theorem dL_law_585 : decode cL_law 585 = .ok (.aload_n 0, 1) := by decide +kernel
theorem dL_law_586 : decode cL_law 586 = .ok (.iload_n 3, 1) := by decide +kernel
theorem dL_law_587 : decode cL_law 587 = .ok (.iconst 3, 1) := by decide +kernel
theorem dL_law_588 : decode cL_law 588 = .ok (.iadd, 1) := by decide +kernel
theorem dL_law_589 : decode cL_law 589 = .ok (.iaload, 1) := by decide +kernel
theorem dL_law_590 : decode cL_law 590 = .ok (.invokevirtual 81, 3) := by decide +kernel
theorem dL_law_593 : decode cL_law 593 = .ok (.aload_n 2, 1) := by decide +kernel
theorem dL_law_594 : decode cL_law 594 = .ok (.aload_n 0, 1) := by decide +kernel
theorem dL_law_595 : decode cL_law 595 = .ok (.iload_n 3, 1) := by decide +kernel
theorem dL_law_596 : decode cL_law 596 = .ok (.iconst 1, 1) := by decide +kernel
theorem dL_law_597 : decode cL_law 597 = .ok (.iadd, 1) := by decide +kernel
theorem dL_law_598 : decode cL_law 598 = .ok (.iaload, 1) := by decide +kernel
theorem dL_law_599 : decode cL_law 599 = .ok (.aload_n 0, 1) := by decide +kernel
theorem dL_law_600 : decode cL_law 600 = .ok (.iload_n 3, 1) := by decide +kernel
theorem dL_law_601 : decode cL_law 601 = .ok (.iconst 2, 1) := by decide +kernel
theorem dL_law_602 : decode cL_law 602 = .ok (.iadd, 1) := by decide +kernel
theorem dL_law_603 : decode cL_law 603 = .ok (.iaload, 1) := by decide +kernel
theorem dL_law_604 : decode cL_law 604 = .ok (.aload_n 0, 1) := by decide +kernel
theorem dL_law_605 : decode cL_law 605 = .ok (.iload_n 3, 1) := by decide +kernel
theorem dL_law_606 : decode cL_law 606 = .ok (.iconst 3, 1) := by decide +kernel
theorem dL_law_607 : decode cL_law 607 = .ok (.iadd, 1) := by decide +kernel
theorem dL_law_608 : decode cL_law 608 = .ok (.iaload, 1) := by decide +kernel
theorem dL_law_609 : decode cL_law 609 = .ok (.invokevirtual 84, 3) := by decide +kernel
theorem dL_law_612 : decode cL_law 612 = .ok (.if_icmp .eq 236, 3) := by decide +kernel
theorem dL_law_615 : decode cL_law 615 = .ok (.iconst 0, 1) := by decide +kernel
theorem dL_law_616 : decode cL_law 616 = .ok (.ireturn, 1) := by decide +kernel
theorem dL_law_617 : decode cL_law 617 = .ok (.aload_n 1, 1) := by decide +kernel
theorem dL_law_618 : decode cL_law 618 = .ok (.invokevirtual 85, 3) := by decide +kernel
theorem dL_law_621 : decode cL_law 621 = .ok (.aload_n 2, 1) := by decide +kernel
theorem dL_law_622 : decode cL_law 622 = .ok (.invokevirtual 88, 3) := by decide +kernel
theorem dL_law_625 : decode cL_law 625 = .ok (.if_icmp .eq 223, 3) := by decide +kernel
theorem dL_law_628 : decode cL_law 628 = .ok (.iconst 0, 1) := by decide +kernel
theorem dL_law_629 : decode cL_law 629 = .ok (.ireturn, 1) := by decide +kernel
theorem dL_law_630 : decode cL_law 630 = .ok (.aload_n 1, 1) := by decide +kernel
theorem dL_law_631 : decode cL_law 631 = .ok (.aload_n 0, 1) := by decide +kernel
theorem dL_law_632 : decode cL_law 632 = .ok (.iload_n 3, 1) := by decide +kernel
theorem dL_law_633 : decode cL_law 633 = .ok (.iconst 1, 1) := by decide +kernel
theorem dL_law_634 : decode cL_law 634 = .ok (.iadd, 1) := by decide +kernel
theorem dL_law_635 : decode cL_law 635 = .ok (.iaload, 1) := by decide +kernel
theorem dL_law_636 : decode cL_law 636 = .ok (.invokevirtual 89, 3) := by decide +kernel
theorem dL_law_639 : decode cL_law 639 = .ok (.aload_n 2, 1) := by decide +kernel
theorem dL_law_640 : decode cL_law 640 = .ok (.aload_n 0, 1) := by decide +kernel
theorem dL_law_641 : decode cL_law 641 = .ok (.iload_n 3, 1) := by decide +kernel
theorem dL_law_642 : decode cL_law 642 = .ok (.iconst 1, 1) := by decide +kernel
theorem dL_law_643 : decode cL_law 643 = .ok (.iadd, 1) := by decide +kernel
theorem dL_law_644 : decode cL_law 644 = .ok (.iaload, 1) := by decide +kernel
theorem dL_law_645 : decode cL_law 645 = .ok (.invokevirtual 92, 3) := by decide +kernel
theorem dL_law_648 : decode cL_law 648 = .ok (.if_icmp .eq 200, 3) := by decide +kernel
theorem dL_law_651 : decode cL_law 651 = .ok (.iconst 0, 1) := by decide +kernel
theorem dL_law_652 : decode cL_law 652 = .ok (.ireturn, 1) := by decide +kernel
theorem dL_law_653 : decode cL_law 653 = .ok (.aload_n 1, 1) := by decide +kernel
theorem dL_law_654 : decode cL_law 654 = .ok (.invokevirtual 93, 3) := by decide +kernel
theorem dL_law_657 : decode cL_law 657 = .ok (.aload_n 2, 1) := by decide +kernel
theorem dL_law_658 : decode cL_law 658 = .ok (.invokevirtual 96, 3) := by decide +kernel
theorem dL_law_661 : decode cL_law 661 = .ok (.if_icmp .eq 187, 3) := by decide +kernel
theorem dL_law_664 : decode cL_law 664 = .ok (.iconst 0, 1) := by decide +kernel
theorem dL_law_665 : decode cL_law 665 = .ok (.ireturn, 1) := by decide +kernel
theorem dL_law_666 : decode cL_law 666 = .ok (.aload_n 1, 1) := by decide +kernel
theorem dL_law_667 : decode cL_law 667 = .ok (.aload_n 0, 1) := by decide +kernel
theorem dL_law_668 : decode cL_law 668 = .ok (.iload_n 3, 1) := by decide +kernel
theorem dL_law_669 : decode cL_law 669 = .ok (.iconst 1, 1) := by decide +kernel
theorem dL_law_670 : decode cL_law 670 = .ok (.iadd, 1) := by decide +kernel
theorem dL_law_671 : decode cL_law 671 = .ok (.iaload, 1) := by decide +kernel
theorem dL_law_672 : decode cL_law 672 = .ok (.invokevirtual 97, 3) := by decide +kernel
theorem dL_law_675 : decode cL_law 675 = .ok (.aload_n 2, 1) := by decide +kernel
theorem dL_law_676 : decode cL_law 676 = .ok (.aload_n 0, 1) := by decide +kernel
theorem dL_law_677 : decode cL_law 677 = .ok (.iload_n 3, 1) := by decide +kernel
theorem dL_law_678 : decode cL_law 678 = .ok (.iconst 1, 1) := by decide +kernel
theorem dL_law_679 : decode cL_law 679 = .ok (.iadd, 1) := by decide +kernel
theorem dL_law_680 : decode cL_law 680 = .ok (.iaload, 1) := by decide +kernel
theorem dL_law_681 : decode cL_law 681 = .ok (.invokevirtual 100, 3) := by decide +kernel
theorem dL_law_684 : decode cL_law 684 = .ok (.if_icmp .eq 164, 3) := by decide +kernel
theorem dL_law_687 : decode cL_law 687 = .ok (.iconst 0, 1) := by decide +kernel
theorem dL_law_688 : decode cL_law 688 = .ok (.ireturn, 1) := by decide +kernel
theorem dL_law_689 : decode cL_law 689 = .ok (.aload_n 1, 1) := by decide +kernel
theorem dL_law_690 : decode cL_law 690 = .ok (.aload_n 0, 1) := by decide +kernel
theorem dL_law_691 : decode cL_law 691 = .ok (.iload_n 3, 1) := by decide +kernel
theorem dL_law_692 : decode cL_law 692 = .ok (.iconst 1, 1) := by decide +kernel
theorem dL_law_693 : decode cL_law 693 = .ok (.iadd, 1) := by decide +kernel
theorem dL_law_694 : decode cL_law 694 = .ok (.iaload, 1) := by decide +kernel
theorem dL_law_695 : decode cL_law 695 = .ok (.aload_n 0, 1) := by decide +kernel
theorem dL_law_696 : decode cL_law 696 = .ok (.iload_n 3, 1) := by decide +kernel
theorem dL_law_697 : decode cL_law 697 = .ok (.iconst 2, 1) := by decide +kernel
theorem dL_law_698 : decode cL_law 698 = .ok (.iadd, 1) := by decide +kernel
theorem dL_law_699 : decode cL_law 699 = .ok (.iaload, 1) := by decide +kernel
theorem dL_law_700 : decode cL_law 700 = .ok (.aload_n 0, 1) := by decide +kernel
theorem dL_law_701 : decode cL_law 701 = .ok (.iload_n 3, 1) := by decide +kernel
theorem dL_law_702 : decode cL_law 702 = .ok (.iconst 3, 1) := by decide +kernel
theorem dL_law_703 : decode cL_law 703 = .ok (.iadd, 1) := by decide +kernel
theorem dL_law_704 : decode cL_law 704 = .ok (.iaload, 1) := by decide +kernel
theorem dL_law_705 : decode cL_law 705 = .ok (.invokevirtual 101, 3) := by decide +kernel
theorem dL_law_708 : decode cL_law 708 = .ok (.aload_n 2, 1) := by decide +kernel
theorem dL_law_709 : decode cL_law 709 = .ok (.aload_n 0, 1) := by decide +kernel
theorem dL_law_710 : decode cL_law 710 = .ok (.iload_n 3, 1) := by decide +kernel
theorem dL_law_711 : decode cL_law 711 = .ok (.iconst 1, 1) := by decide +kernel
theorem dL_law_712 : decode cL_law 712 = .ok (.iadd, 1) := by decide +kernel
theorem dL_law_713 : decode cL_law 713 = .ok (.iaload, 1) := by decide +kernel
theorem dL_law_714 : decode cL_law 714 = .ok (.aload_n 0, 1) := by decide +kernel
theorem dL_law_715 : decode cL_law 715 = .ok (.iload_n 3, 1) := by decide +kernel
theorem dL_law_716 : decode cL_law 716 = .ok (.iconst 2, 1) := by decide +kernel
theorem dL_law_717 : decode cL_law 717 = .ok (.iadd, 1) := by decide +kernel
theorem dL_law_718 : decode cL_law 718 = .ok (.iaload, 1) := by decide +kernel
theorem dL_law_719 : decode cL_law 719 = .ok (.aload_n 0, 1) := by decide +kernel
theorem dL_law_720 : decode cL_law 720 = .ok (.iload_n 3, 1) := by decide +kernel
theorem dL_law_721 : decode cL_law 721 = .ok (.iconst 3, 1) := by decide +kernel
theorem dL_law_722 : decode cL_law 722 = .ok (.iadd, 1) := by decide +kernel
theorem dL_law_723 : decode cL_law 723 = .ok (.iaload, 1) := by decide +kernel
theorem dL_law_724 : decode cL_law 724 = .ok (.invokevirtual 104, 3) := by decide +kernel
theorem dL_law_727 : decode cL_law 727 = .ok (.if_icmp .eq 121, 3) := by decide +kernel
theorem dL_law_730 : decode cL_law 730 = .ok (.iconst 0, 1) := by decide +kernel
theorem dL_law_731 : decode cL_law 731 = .ok (.ireturn, 1) := by decide +kernel
theorem dL_law_732 : decode cL_law 732 = .ok (.aload_n 1, 1) := by decide +kernel
theorem dL_law_733 : decode cL_law 733 = .ok (.aload_n 0, 1) := by decide +kernel
theorem dL_law_734 : decode cL_law 734 = .ok (.iload_n 3, 1) := by decide +kernel
theorem dL_law_735 : decode cL_law 735 = .ok (.iconst 1, 1) := by decide +kernel
theorem dL_law_736 : decode cL_law 736 = .ok (.iadd, 1) := by decide +kernel
theorem dL_law_737 : decode cL_law 737 = .ok (.iaload, 1) := by decide +kernel
theorem dL_law_738 : decode cL_law 738 = .ok (.aload_n 0, 1) := by decide +kernel
theorem dL_law_739 : decode cL_law 739 = .ok (.iload_n 3, 1) := by decide +kernel
theorem dL_law_740 : decode cL_law 740 = .ok (.iconst 2, 1) := by decide +kernel
theorem dL_law_741 : decode cL_law 741 = .ok (.iadd, 1) := by decide +kernel
theorem dL_law_742 : decode cL_law 742 = .ok (.iaload, 1) := by decide +kernel
theorem dL_law_743 : decode cL_law 743 = .ok (.invokevirtual 105, 3) := by decide +kernel
theorem dL_law_746 : decode cL_law 746 = .ok (.aload_n 2, 1) := by decide +kernel
theorem dL_law_747 : decode cL_law 747 = .ok (.aload_n 0, 1) := by decide +kernel
theorem dL_law_748 : decode cL_law 748 = .ok (.iload_n 3, 1) := by decide +kernel
theorem dL_law_749 : decode cL_law 749 = .ok (.iconst 1, 1) := by decide +kernel
theorem dL_law_750 : decode cL_law 750 = .ok (.iadd, 1) := by decide +kernel
theorem dL_law_751 : decode cL_law 751 = .ok (.iaload, 1) := by decide +kernel
theorem dL_law_752 : decode cL_law 752 = .ok (.aload_n 0, 1) := by decide +kernel
theorem dL_law_753 : decode cL_law 753 = .ok (.iload_n 3, 1) := by decide +kernel
theorem dL_law_754 : decode cL_law 754 = .ok (.iconst 2, 1) := by decide +kernel
theorem dL_law_755 : decode cL_law 755 = .ok (.iadd, 1) := by decide +kernel
theorem dL_law_756 : decode cL_law 756 = .ok (.iaload, 1) := by decide +kernel
theorem dL_law_757 : decode cL_law 757 = .ok (.invokevirtual 108, 3) := by decide +kernel
theorem dL_law_760 : decode cL_law 760 = .ok (.if_icmp .eq 88, 3) := by decide +kernel
theorem dL_law_763 : decode cL_law 763 = .ok (.iconst 0, 1) := by decide +kernel
theorem dL_law_764 : decode cL_law 764 = .ok (.ireturn, 1) := by decide +kernel
theorem dL_law_765 : decode cL_law 765 = .ok (.aload_n 1, 1) := by decide +kernel
theorem dL_law_766 : decode cL_law 766 = .ok (.aload_n 0, 1) := by decide +kernel
theorem dL_law_767 : decode cL_law 767 = .ok (.iload_n 3, 1) := by decide +kernel
theorem dL_law_768 : decode cL_law 768 = .ok (.iconst 1, 1) := by decide +kernel
theorem dL_law_769 : decode cL_law 769 = .ok (.iadd, 1) := by decide +kernel
theorem dL_law_770 : decode cL_law 770 = .ok (.iaload, 1) := by decide +kernel
theorem dL_law_771 : decode cL_law 771 = .ok (.invokevirtual 109, 3) := by decide +kernel
theorem dL_law_774 : decode cL_law 774 = .ok (.aload_n 2, 1) := by decide +kernel
theorem dL_law_775 : decode cL_law 775 = .ok (.aload_n 0, 1) := by decide +kernel
theorem dL_law_776 : decode cL_law 776 = .ok (.iload_n 3, 1) := by decide +kernel
theorem dL_law_777 : decode cL_law 777 = .ok (.iconst 1, 1) := by decide +kernel
theorem dL_law_778 : decode cL_law 778 = .ok (.iadd, 1) := by decide +kernel
theorem dL_law_779 : decode cL_law 779 = .ok (.iaload, 1) := by decide +kernel
theorem dL_law_780 : decode cL_law 780 = .ok (.invokevirtual 112, 3) := by decide +kernel
theorem dL_law_783 : decode cL_law 783 = .ok (.if_icmp .eq 65, 3) := by decide +kernel
theorem dL_law_786 : decode cL_law 786 = .ok (.iconst 0, 1) := by decide +kernel
theorem dL_law_787 : decode cL_law 787 = .ok (.ireturn, 1) := by decide +kernel
theorem dL_law_788 : decode cL_law 788 = .ok (.aload_n 1, 1) := by decide +kernel
theorem dL_law_789 : decode cL_law 789 = .ok (.aload_n 0, 1) := by decide +kernel
theorem dL_law_790 : decode cL_law 790 = .ok (.iload_n 3, 1) := by decide +kernel
theorem dL_law_791 : decode cL_law 791 = .ok (.iconst 1, 1) := by decide +kernel
theorem dL_law_792 : decode cL_law 792 = .ok (.iadd, 1) := by decide +kernel
theorem dL_law_793 : decode cL_law 793 = .ok (.iaload, 1) := by decide +kernel
theorem dL_law_794 : decode cL_law 794 = .ok (.invokevirtual 113, 3) := by decide +kernel
theorem dL_law_797 : decode cL_law 797 = .ok (.aload_n 2, 1) := by decide +kernel
theorem dL_law_798 : decode cL_law 798 = .ok (.aload_n 0, 1) := by decide +kernel
theorem dL_law_799 : decode cL_law 799 = .ok (.iload_n 3, 1) := by decide +kernel
theorem dL_law_800 : decode cL_law 800 = .ok (.iconst 1, 1) := by decide +kernel
theorem dL_law_801 : decode cL_law 801 = .ok (.iadd, 1) := by decide +kernel
theorem dL_law_802 : decode cL_law 802 = .ok (.iaload, 1) := by decide +kernel
theorem dL_law_803 : decode cL_law 803 = .ok (.invokevirtual 116, 3) := by decide +kernel
theorem dL_law_806 : decode cL_law 806 = .ok (.if_icmp .eq 42, 3) := by decide +kernel
theorem dL_law_809 : decode cL_law 809 = .ok (.iconst 0, 1) := by decide +kernel
theorem dL_law_810 : decode cL_law 810 = .ok (.ireturn, 1) := by decide +kernel
theorem dL_law_811 : decode cL_law 811 = .ok (.aload_n 1, 1) := by decide +kernel
theorem dL_law_812 : decode cL_law 812 = .ok (.aload_n 0, 1) := by decide +kernel
theorem dL_law_813 : decode cL_law 813 = .ok (.iload_n 3, 1) := by decide +kernel
theorem dL_law_814 : decode cL_law 814 = .ok (.iconst 1, 1) := by decide +kernel
theorem dL_law_815 : decode cL_law 815 = .ok (.iadd, 1) := by decide +kernel
theorem dL_law_816 : decode cL_law 816 = .ok (.iaload, 1) := by decide +kernel
theorem dL_law_817 : decode cL_law 817 = .ok (.invokevirtual 117, 3) := by decide +kernel
theorem dL_law_820 : decode cL_law 820 = .ok (.aload_n 2, 1) := by decide +kernel
theorem dL_law_821 : decode cL_law 821 = .ok (.aload_n 0, 1) := by decide +kernel
theorem dL_law_822 : decode cL_law 822 = .ok (.iload_n 3, 1) := by decide +kernel
theorem dL_law_823 : decode cL_law 823 = .ok (.iconst 1, 1) := by decide +kernel
theorem dL_law_824 : decode cL_law 824 = .ok (.iadd, 1) := by decide +kernel
theorem dL_law_825 : decode cL_law 825 = .ok (.iaload, 1) := by decide +kernel
theorem dL_law_826 : decode cL_law 826 = .ok (.invokevirtual 120, 3) := by decide +kernel
theorem dL_law_829 : decode cL_law 829 = .ok (.if_icmp .eq 19, 3) := by decide +kernel
theorem dL_law_832 : decode cL_law 832 = .ok (.iconst 0, 1) := by decide +kernel
theorem dL_law_833 : decode cL_law 833 = .ok (.ireturn, 1) := by decide +kernel
theorem dL_law_834 : decode cL_law 834 = .ok (.aload_n 1, 1) := by decide +kernel
theorem dL_law_835 : decode cL_law 835 = .ok (.invokevirtual 121, 3) := by decide +kernel
theorem dL_law_838 : decode cL_law 838 = .ok (.aload_n 2, 1) := by decide +kernel
theorem dL_law_839 : decode cL_law 839 = .ok (.invokevirtual 125, 3) := by decide +kernel
theorem dL_law_842 : decode cL_law 842 = .ok (.lcmp, 1) := by decide +kernel
theorem dL_law_843 : decode cL_law 843 = .ok (.ifCond .eq 5, 3) := by decide +kernel
theorem dL_law_846 : decode cL_law 846 = .ok (.iconst 0, 1) := by decide +kernel
theorem dL_law_847 : decode cL_law 847 = .ok (.ireturn, 1) := by decide +kernel
theorem dL_law_848 : decode cL_law 848 = .ok (.iinc 3 4, 3) := by decide +kernel
theorem dL_law_851 : decode cL_law 851 = .ok (.goto (-833), 3) := by decide +kernel
theorem dL_law_854 : decode cL_law 854 = .ok (.iconst 1, 1) := by decide +kernel
theorem dL_law_855 : decode cL_law 855 = .ok (.ireturn, 1) := by decide +kernel
end
section
theorem zz_probe : True := trivial
end
