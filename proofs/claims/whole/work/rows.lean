section
-- ===== PART A: goes FIRST, ahead of the names: the tables' words, and 'selects' of the private methods out of them =====
/-- a private method of a class that the tables say can be made, by its rows of tables_1 -/
def lw_okq (q : MethodName × Nat) : Prop := (q.1.cls ≠ "java/lang/invoke/MethodHandle" ∧ q.1.cls ≠ "java/lang/invoke/VarHandle") ∧ Cond.instantiable q.1.cls q.2 ∈ tables_1 ∧ Cond.privateMethod q.1 ∈ tables_1 ∧ Cond.instanceMethod q.1 ∈ tables_1
theorem lw_p0 : lw_okq (⟨"SpeedWarden$Line", "redraws", "()V"⟩, 4) := ⟨⟨by decide +kernel, by decide +kernel⟩, List.mem_of_getElem? (i := 25) (by decide +kernel), List.mem_of_getElem? (i := 141) (by decide +kernel), List.mem_of_getElem? (i := 142) (by decide +kernel)⟩
theorem lw_p1 : lw_okq (⟨"SpeedWarden$Curve", "draws", "(LSpeedWarden$Track;)V"⟩, 2) := ⟨⟨by decide +kernel, by decide +kernel⟩, List.mem_of_getElem? (i := 125) (by decide +kernel), List.mem_of_getElem? (i := 145) (by decide +kernel), List.mem_of_getElem? (i := 146) (by decide +kernel)⟩
theorem lw_p2 : lw_okq (⟨"SpeedWarden$Curve", "drawsCeilings", "(LSpeedWarden$Track;)V"⟩, 2) := ⟨⟨by decide +kernel, by decide +kernel⟩, List.mem_of_getElem? (i := 125) (by decide +kernel), List.mem_of_getElem? (i := 149) (by decide +kernel), List.mem_of_getElem? (i := 150) (by decide +kernel)⟩
theorem lw_p3 : lw_okq (⟨"SpeedWarden$Track", "decel", "(I)I"⟩, 5) := ⟨⟨by decide +kernel, by decide +kernel⟩, List.mem_of_getElem? (i := 37) (by decide +kernel), List.mem_of_getElem? (i := 159) (by decide +kernel), List.mem_of_getElem? (i := 160) (by decide +kernel)⟩
theorem lw_p4 : lw_okq (⟨"SpeedWarden$History", "notes", "(LSpeedWarden$State;)V"⟩, 3) := ⟨⟨by decide +kernel, by decide +kernel⟩, List.mem_of_getElem? (i := 183) (by decide +kernel), List.mem_of_getElem? (i := 268) (by decide +kernel), List.mem_of_getElem? (i := 269) (by decide +kernel)⟩
theorem lw_p5 : lw_okq (⟨"SpeedWarden$State", "copies", "(LSpeedWarden$State;)V"⟩, 2) := ⟨⟨by decide +kernel, by decide +kernel⟩, List.mem_of_getElem? (i := 31) (by decide +kernel), List.mem_of_getElem? (i := 272) (by decide +kernel), List.mem_of_getElem? (i := 273) (by decide +kernel)⟩
theorem lw_p6 : lw_okq (⟨"SpeedWarden$Track", "copies", "(LSpeedWarden$Track;)V"⟩, 5) := ⟨⟨by decide +kernel, by decide +kernel⟩, List.mem_of_getElem? (i := 37) (by decide +kernel), List.mem_of_getElem? (i := 276) (by decide +kernel), List.mem_of_getElem? (i := 277) (by decide +kernel)⟩
theorem lw_p7 : lw_okq (⟨"SpeedWarden$Train", "copies", "(LSpeedWarden$Train;)V"⟩, 8) := ⟨⟨by decide +kernel, by decide +kernel⟩, List.mem_of_getElem? (i := 77) (by decide +kernel), List.mem_of_getElem? (i := 280) (by decide +kernel), List.mem_of_getElem? (i := 281) (by decide +kernel)⟩
theorem lw_p8 : lw_okq (⟨"SpeedWarden$Line", "resizes", "(I)I"⟩, 4) := ⟨⟨by decide +kernel, by decide +kernel⟩, List.mem_of_getElem? (i := 25) (by decide +kernel), List.mem_of_getElem? (i := 284) (by decide +kernel), List.mem_of_getElem? (i := 285) (by decide +kernel)⟩
theorem lw_p9 : lw_okq (⟨"SpeedWarden$Track", "resized", "(I)I"⟩, 5) := ⟨⟨by decide +kernel, by decide +kernel⟩, List.mem_of_getElem? (i := 37) (by decide +kernel), List.mem_of_getElem? (i := 288) (by decide +kernel), List.mem_of_getElem? (i := 289) (by decide +kernel)⟩
theorem lw_p10 : lw_okq (⟨"SpeedWarden$Train", "puts", "(II)V"⟩, 8) := ⟨⟨by decide +kernel, by decide +kernel⟩, List.mem_of_getElem? (i := 77) (by decide +kernel), List.mem_of_getElem? (i := 295) (by decide +kernel), List.mem_of_getElem? (i := 296) (by decide +kernel)⟩
theorem lw_p11 : lw_okq (⟨"SpeedWarden$Train", "knowsPlace", "()V"⟩, 8) := ⟨⟨by decide +kernel, by decide +kernel⟩, List.mem_of_getElem? (i := 77) (by decide +kernel), List.mem_of_getElem? (i := 299) (by decide +kernel), List.mem_of_getElem? (i := 300) (by decide +kernel)⟩
theorem lw_p12 : lw_okq (⟨"SpeedWarden", "redrawn", "(I)I"⟩, 8) := ⟨⟨by decide +kernel, by decide +kernel⟩, List.mem_of_getElem? (i := 17) (by decide +kernel), List.mem_of_getElem? (i := 303) (by decide +kernel), List.mem_of_getElem? (i := 304) (by decide +kernel)⟩
theorem lw_p13 : lw_okq (⟨"SpeedWarden", "settled", "(I)I"⟩, 8) := ⟨⟨by decide +kernel, by decide +kernel⟩, List.mem_of_getElem? (i := 17) (by decide +kernel), List.mem_of_getElem? (i := 308) (by decide +kernel), List.mem_of_getElem? (i := 309) (by decide +kernel)⟩
theorem lw_p14 : lw_okq (⟨"SpeedWarden$History", "keeps", "()V"⟩, 3) := ⟨⟨by decide +kernel, by decide +kernel⟩, List.mem_of_getElem? (i := 183) (by decide +kernel), List.mem_of_getElem? (i := 312) (by decide +kernel), List.mem_of_getElem? (i := 313) (by decide +kernel)⟩
theorem lw_p15 : lw_okq (⟨"SpeedWarden", "counted", "(I)I"⟩, 8) := ⟨⟨by decide +kernel, by decide +kernel⟩, List.mem_of_getElem? (i := 17) (by decide +kernel), List.mem_of_getElem? (i := 317) (by decide +kernel), List.mem_of_getElem? (i := 318) (by decide +kernel)⟩
def lw_privs_1 : List (MethodName × Nat) := [(⟨"SpeedWarden$Line", "redraws", "()V"⟩, 4), (⟨"SpeedWarden$Curve", "draws", "(LSpeedWarden$Track;)V"⟩, 2), (⟨"SpeedWarden$Curve", "drawsCeilings", "(LSpeedWarden$Track;)V"⟩, 2), (⟨"SpeedWarden$Track", "decel", "(I)I"⟩, 5), (⟨"SpeedWarden$History", "notes", "(LSpeedWarden$State;)V"⟩, 3), (⟨"SpeedWarden$State", "copies", "(LSpeedWarden$State;)V"⟩, 2), (⟨"SpeedWarden$Track", "copies", "(LSpeedWarden$Track;)V"⟩, 5), (⟨"SpeedWarden$Train", "copies", "(LSpeedWarden$Train;)V"⟩, 8), (⟨"SpeedWarden$Line", "resizes", "(I)I"⟩, 4), (⟨"SpeedWarden$Track", "resized", "(I)I"⟩, 5), (⟨"SpeedWarden$Train", "puts", "(II)V"⟩, 8), (⟨"SpeedWarden$Train", "knowsPlace", "()V"⟩, 8), (⟨"SpeedWarden", "redrawn", "(I)I"⟩, 8), (⟨"SpeedWarden", "settled", "(I)I"⟩, 8), (⟨"SpeedWarden$History", "keeps", "()V"⟩, 3), (⟨"SpeedWarden", "counted", "(I)I"⟩, 8)]
theorem lw_r1 : ∀ q ∈ lw_privs_1, lw_okq q := List.forall_mem_cons.mpr ⟨lw_p0, List.forall_mem_cons.mpr ⟨lw_p1, List.forall_mem_cons.mpr ⟨lw_p2, List.forall_mem_cons.mpr ⟨lw_p3, List.forall_mem_cons.mpr ⟨lw_p4, List.forall_mem_cons.mpr ⟨lw_p5, List.forall_mem_cons.mpr ⟨lw_p6, List.forall_mem_cons.mpr ⟨lw_p7, List.forall_mem_cons.mpr ⟨lw_p8, List.forall_mem_cons.mpr ⟨lw_p9, List.forall_mem_cons.mpr ⟨lw_p10, List.forall_mem_cons.mpr ⟨lw_p11, List.forall_mem_cons.mpr ⟨lw_p12, List.forall_mem_cons.mpr ⟨lw_p13, List.forall_mem_cons.mpr ⟨lw_p14, List.forall_mem_cons.mpr ⟨lw_p15, fun _ h => absurd h List.not_mem_nil⟩⟩⟩⟩⟩⟩⟩⟩⟩⟩⟩⟩⟩⟩⟩⟩
theorem lw_p16 : lw_okq (⟨"SpeedWarden$Track", "relaid", "(IIII)I"⟩, 5) := ⟨⟨by decide +kernel, by decide +kernel⟩, List.mem_of_getElem? (i := 37) (by decide +kernel), List.mem_of_getElem? (i := 325) (by decide +kernel), List.mem_of_getElem? (i := 326) (by decide +kernel)⟩
theorem lw_p17 : lw_okq (⟨"SpeedWarden$Track", "has", "(I)Z"⟩, 5) := ⟨⟨by decide +kernel, by decide +kernel⟩, List.mem_of_getElem? (i := 37) (by decide +kernel), List.mem_of_getElem? (i := 329) (by decide +kernel), List.mem_of_getElem? (i := 330) (by decide +kernel)⟩
theorem lw_p18 : lw_okq (⟨"SpeedWarden$Track", "marked", "(II)I"⟩, 5) := ⟨⟨by decide +kernel, by decide +kernel⟩, List.mem_of_getElem? (i := 37) (by decide +kernel), List.mem_of_getElem? (i := 340) (by decide +kernel), List.mem_of_getElem? (i := 341) (by decide +kernel)⟩
theorem lw_p19 : lw_okq (⟨"SpeedWarden$Track", "adjusted", "(II)I"⟩, 5) := ⟨⟨by decide +kernel, by decide +kernel⟩, List.mem_of_getElem? (i := 37) (by decide +kernel), List.mem_of_getElem? (i := 348) (by decide +kernel), List.mem_of_getElem? (i := 349) (by decide +kernel)⟩
theorem lw_p20 : lw_okq (⟨"SpeedWarden$Line", "cellValue", "(II)I"⟩, 4) := ⟨⟨by decide +kernel, by decide +kernel⟩, List.mem_of_getElem? (i := 25) (by decide +kernel), List.mem_of_getElem? (i := 360) (by decide +kernel), List.mem_of_getElem? (i := 361) (by decide +kernel)⟩
theorem lw_p21 : lw_okq (⟨"SpeedWarden$Curve", "boundOf", "(LSpeedWarden$Track;I)I"⟩, 2) := ⟨⟨by decide +kernel, by decide +kernel⟩, List.mem_of_getElem? (i := 125) (by decide +kernel), List.mem_of_getElem? (i := 382) (by decide +kernel), List.mem_of_getElem? (i := 383) (by decide +kernel)⟩
theorem lw_p22 : lw_okq (⟨"SpeedWarden$Track", "cellsToStand", "(II)I"⟩, 5) := ⟨⟨by decide +kernel, by decide +kernel⟩, List.mem_of_getElem? (i := 37) (by decide +kernel), List.mem_of_getElem? (i := 391) (by decide +kernel), List.mem_of_getElem? (i := 392) (by decide +kernel)⟩
theorem lw_p23 : lw_okq (⟨"SpeedWarden$Track", "fastestToStand", "(II)I"⟩, 5) := ⟨⟨by decide +kernel, by decide +kernel⟩, List.mem_of_getElem? (i := 37) (by decide +kernel), List.mem_of_getElem? (i := 400) (by decide +kernel), List.mem_of_getElem? (i := 401) (by decide +kernel)⟩
theorem lw_p24 : lw_okq (⟨"SpeedWarden$Line", "countPermitted", "(I)I"⟩, 4) := ⟨⟨by decide +kernel, by decide +kernel⟩, List.mem_of_getElem? (i := 25) (by decide +kernel), List.mem_of_getElem? (i := 410) (by decide +kernel), List.mem_of_getElem? (i := 411) (by decide +kernel)⟩
theorem lw_p25 : lw_okq (⟨"SpeedWarden$Line", "putsTrain", "(II)I"⟩, 4) := ⟨⟨by decide +kernel, by decide +kernel⟩, List.mem_of_getElem? (i := 25) (by decide +kernel), List.mem_of_getElem? (i := 419) (by decide +kernel), List.mem_of_getElem? (i := 420) (by decide +kernel)⟩
theorem lw_p26 : lw_okq (⟨"SpeedWarden$Line", "supervises", "()V"⟩, 4) := ⟨⟨by decide +kernel, by decide +kernel⟩, List.mem_of_getElem? (i := 25) (by decide +kernel), List.mem_of_getElem? (i := 424) (by decide +kernel), List.mem_of_getElem? (i := 425) (by decide +kernel)⟩
theorem lw_p27 : lw_okq (⟨"SpeedWarden$Line", "seen", "()I"⟩, 4) := ⟨⟨by decide +kernel, by decide +kernel⟩, List.mem_of_getElem? (i := 25) (by decide +kernel), List.mem_of_getElem? (i := 428) (by decide +kernel), List.mem_of_getElem? (i := 429) (by decide +kernel)⟩
theorem lw_p28 : lw_okq (⟨"SpeedWarden$Line", "spanFirst", "()I"⟩, 4) := ⟨⟨by decide +kernel, by decide +kernel⟩, List.mem_of_getElem? (i := 25) (by decide +kernel), List.mem_of_getElem? (i := 432) (by decide +kernel), List.mem_of_getElem? (i := 433) (by decide +kernel)⟩
theorem lw_p29 : lw_okq (⟨"SpeedWarden$Line", "kept", "(I)I"⟩, 4) := ⟨⟨by decide +kernel, by decide +kernel⟩, List.mem_of_getElem? (i := 25) (by decide +kernel), List.mem_of_getElem? (i := 436) (by decide +kernel), List.mem_of_getElem? (i := 437) (by decide +kernel)⟩
theorem lw_p30 : lw_okq (⟨"SpeedWarden$Line", "spanLast", "()I"⟩, 4) := ⟨⟨by decide +kernel, by decide +kernel⟩, List.mem_of_getElem? (i := 25) (by decide +kernel), List.mem_of_getElem? (i := 442) (by decide +kernel), List.mem_of_getElem? (i := 443) (by decide +kernel)⟩
theorem lw_p31 : lw_okq (⟨"SpeedWarden$Curve", "leastSquare", "(II)I"⟩, 2) := ⟨⟨by decide +kernel, by decide +kernel⟩, List.mem_of_getElem? (i := 125) (by decide +kernel), List.mem_of_getElem? (i := 446) (by decide +kernel), List.mem_of_getElem? (i := 447) (by decide +kernel)⟩
def lw_privs_2 : List (MethodName × Nat) := [(⟨"SpeedWarden$Track", "relaid", "(IIII)I"⟩, 5), (⟨"SpeedWarden$Track", "has", "(I)Z"⟩, 5), (⟨"SpeedWarden$Track", "marked", "(II)I"⟩, 5), (⟨"SpeedWarden$Track", "adjusted", "(II)I"⟩, 5), (⟨"SpeedWarden$Line", "cellValue", "(II)I"⟩, 4), (⟨"SpeedWarden$Curve", "boundOf", "(LSpeedWarden$Track;I)I"⟩, 2), (⟨"SpeedWarden$Track", "cellsToStand", "(II)I"⟩, 5), (⟨"SpeedWarden$Track", "fastestToStand", "(II)I"⟩, 5), (⟨"SpeedWarden$Line", "countPermitted", "(I)I"⟩, 4), (⟨"SpeedWarden$Line", "putsTrain", "(II)I"⟩, 4), (⟨"SpeedWarden$Line", "supervises", "()V"⟩, 4), (⟨"SpeedWarden$Line", "seen", "()I"⟩, 4), (⟨"SpeedWarden$Line", "spanFirst", "()I"⟩, 4), (⟨"SpeedWarden$Line", "kept", "(I)I"⟩, 4), (⟨"SpeedWarden$Line", "spanLast", "()I"⟩, 4), (⟨"SpeedWarden$Curve", "leastSquare", "(II)I"⟩, 2)]
theorem lw_r2 : ∀ q ∈ lw_privs_2, lw_okq q := List.forall_mem_cons.mpr ⟨lw_p16, List.forall_mem_cons.mpr ⟨lw_p17, List.forall_mem_cons.mpr ⟨lw_p18, List.forall_mem_cons.mpr ⟨lw_p19, List.forall_mem_cons.mpr ⟨lw_p20, List.forall_mem_cons.mpr ⟨lw_p21, List.forall_mem_cons.mpr ⟨lw_p22, List.forall_mem_cons.mpr ⟨lw_p23, List.forall_mem_cons.mpr ⟨lw_p24, List.forall_mem_cons.mpr ⟨lw_p25, List.forall_mem_cons.mpr ⟨lw_p26, List.forall_mem_cons.mpr ⟨lw_p27, List.forall_mem_cons.mpr ⟨lw_p28, List.forall_mem_cons.mpr ⟨lw_p29, List.forall_mem_cons.mpr ⟨lw_p30, List.forall_mem_cons.mpr ⟨lw_p31, fun _ h => absurd h List.not_mem_nil⟩⟩⟩⟩⟩⟩⟩⟩⟩⟩⟩⟩⟩⟩⟩⟩
theorem lw_p32 : lw_okq (⟨"SpeedWarden$Line", "stepsOnce", "(I)I"⟩, 4) := ⟨⟨by decide +kernel, by decide +kernel⟩, List.mem_of_getElem? (i := 25) (by decide +kernel), List.mem_of_getElem? (i := 454) (by decide +kernel), List.mem_of_getElem? (i := 455) (by decide +kernel)⟩
theorem lw_p33 : lw_okq (⟨"SpeedWarden$Line", "goesOn", "(I)Z"⟩, 4) := ⟨⟨by decide +kernel, by decide +kernel⟩, List.mem_of_getElem? (i := 25) (by decide +kernel), List.mem_of_getElem? (i := 458) (by decide +kernel), List.mem_of_getElem? (i := 459) (by decide +kernel)⟩
theorem lw_p34 : lw_okq (⟨"SpeedWarden$Line", "gain", "(II)I"⟩, 4) := ⟨⟨by decide +kernel, by decide +kernel⟩, List.mem_of_getElem? (i := 25) (by decide +kernel), List.mem_of_getElem? (i := 462) (by decide +kernel), List.mem_of_getElem? (i := 463) (by decide +kernel)⟩
theorem lw_p35 : lw_okq (⟨"SpeedWarden$Train", "goesOn", "(ILSpeedWarden$Track;)V"⟩, 8) := ⟨⟨by decide +kernel, by decide +kernel⟩, List.mem_of_getElem? (i := 77) (by decide +kernel), List.mem_of_getElem? (i := 466) (by decide +kernel), List.mem_of_getElem? (i := 467) (by decide +kernel)⟩
theorem lw_p36 : lw_okq (⟨"SpeedWarden$Line", "stepsByDriver", "(I)I"⟩, 4) := ⟨⟨by decide +kernel, by decide +kernel⟩, List.mem_of_getElem? (i := 25) (by decide +kernel), List.mem_of_getElem? (i := 474) (by decide +kernel), List.mem_of_getElem? (i := 475) (by decide +kernel)⟩
theorem lw_p37 : lw_okq (⟨"SpeedWarden$Line", "driverHandle", "()I"⟩, 4) := ⟨⟨by decide +kernel, by decide +kernel⟩, List.mem_of_getElem? (i := 25) (by decide +kernel), List.mem_of_getElem? (i := 478) (by decide +kernel), List.mem_of_getElem? (i := 479) (by decide +kernel)⟩
theorem lw_p38 : lw_okq (⟨"SpeedWarden$Line", "releases", "()I"⟩, 4) := ⟨⟨by decide +kernel, by decide +kernel⟩, List.mem_of_getElem? (i := 25) (by decide +kernel), List.mem_of_getElem? (i := 486) (by decide +kernel), List.mem_of_getElem? (i := 487) (by decide +kernel)⟩
theorem lw_p39 : lw_okq (⟨"SpeedWarden$Line", "trainValue", "(I)I"⟩, 4) := ⟨⟨by decide +kernel, by decide +kernel⟩, List.mem_of_getElem? (i := 25) (by decide +kernel), List.mem_of_getElem? (i := 494) (by decide +kernel), List.mem_of_getElem? (i := 495) (by decide +kernel)⟩
theorem lw_p40 : lw_okq (⟨"SpeedWarden$Script", "adds", "(I)I"⟩, 8) := ⟨⟨by decide +kernel, by decide +kernel⟩, List.mem_of_getElem? (i := 203) (by decide +kernel), List.mem_of_getElem? (i := 502) (by decide +kernel), List.mem_of_getElem? (i := 503) (by decide +kernel)⟩
theorem lw_p41 : lw_okq (⟨"SpeedWarden$Script", "empties", "()I"⟩, 8) := ⟨⟨by decide +kernel, by decide +kernel⟩, List.mem_of_getElem? (i := 203) (by decide +kernel), List.mem_of_getElem? (i := 511) (by decide +kernel), List.mem_of_getElem? (i := 512) (by decide +kernel)⟩
theorem lw_p42 : lw_okq (⟨"SpeedWarden$Script", "isReadable", "()Z"⟩, 8) := ⟨⟨by decide +kernel, by decide +kernel⟩, List.mem_of_getElem? (i := 203) (by decide +kernel), List.mem_of_getElem? (i := 519) (by decide +kernel), List.mem_of_getElem? (i := 520) (by decide +kernel)⟩
theorem lw_p43 : lw_okq (⟨"SpeedWarden$Script", "readsOrder", "(I)Z"⟩, 8) := ⟨⟨by decide +kernel, by decide +kernel⟩, List.mem_of_getElem? (i := 203) (by decide +kernel), List.mem_of_getElem? (i := 523) (by decide +kernel), List.mem_of_getElem? (i := 524) (by decide +kernel)⟩
theorem lw_p44 : lw_okq (⟨"SpeedWarden$Script", "skipsBlanks", "()V"⟩, 8) := ⟨⟨by decide +kernel, by decide +kernel⟩, List.mem_of_getElem? (i := 203) (by decide +kernel), List.mem_of_getElem? (i := 527) (by decide +kernel), List.mem_of_getElem? (i := 528) (by decide +kernel)⟩
theorem lw_p45 : lw_okq (⟨"SpeedWarden$Script", "skipsLetters", "()V"⟩, 8) := ⟨⟨by decide +kernel, by decide +kernel⟩, List.mem_of_getElem? (i := 203) (by decide +kernel), List.mem_of_getElem? (i := 531) (by decide +kernel), List.mem_of_getElem? (i := 532) (by decide +kernel)⟩
theorem lw_p46 : lw_okq (⟨"SpeedWarden$Script", "faulty", "(II)Z"⟩, 8) := ⟨⟨by decide +kernel, by decide +kernel⟩, List.mem_of_getElem? (i := 203) (by decide +kernel), List.mem_of_getElem? (i := 535) (by decide +kernel), List.mem_of_getElem? (i := 536) (by decide +kernel)⟩
theorem lw_p47 : lw_okq (⟨"SpeedWarden$Script", "wordBetween", "(II)I"⟩, 8) := ⟨⟨by decide +kernel, by decide +kernel⟩, List.mem_of_getElem? (i := 203) (by decide +kernel), List.mem_of_getElem? (i := 539) (by decide +kernel), List.mem_of_getElem? (i := 540) (by decide +kernel)⟩
def lw_privs_3 : List (MethodName × Nat) := [(⟨"SpeedWarden$Line", "stepsOnce", "(I)I"⟩, 4), (⟨"SpeedWarden$Line", "goesOn", "(I)Z"⟩, 4), (⟨"SpeedWarden$Line", "gain", "(II)I"⟩, 4), (⟨"SpeedWarden$Train", "goesOn", "(ILSpeedWarden$Track;)V"⟩, 8), (⟨"SpeedWarden$Line", "stepsByDriver", "(I)I"⟩, 4), (⟨"SpeedWarden$Line", "driverHandle", "()I"⟩, 4), (⟨"SpeedWarden$Line", "releases", "()I"⟩, 4), (⟨"SpeedWarden$Line", "trainValue", "(I)I"⟩, 4), (⟨"SpeedWarden$Script", "adds", "(I)I"⟩, 8), (⟨"SpeedWarden$Script", "empties", "()I"⟩, 8), (⟨"SpeedWarden$Script", "isReadable", "()Z"⟩, 8), (⟨"SpeedWarden$Script", "readsOrder", "(I)Z"⟩, 8), (⟨"SpeedWarden$Script", "skipsBlanks", "()V"⟩, 8), (⟨"SpeedWarden$Script", "skipsLetters", "()V"⟩, 8), (⟨"SpeedWarden$Script", "faulty", "(II)Z"⟩, 8), (⟨"SpeedWarden$Script", "wordBetween", "(II)I"⟩, 8)]
theorem lw_r3 : ∀ q ∈ lw_privs_3, lw_okq q := List.forall_mem_cons.mpr ⟨lw_p32, List.forall_mem_cons.mpr ⟨lw_p33, List.forall_mem_cons.mpr ⟨lw_p34, List.forall_mem_cons.mpr ⟨lw_p35, List.forall_mem_cons.mpr ⟨lw_p36, List.forall_mem_cons.mpr ⟨lw_p37, List.forall_mem_cons.mpr ⟨lw_p38, List.forall_mem_cons.mpr ⟨lw_p39, List.forall_mem_cons.mpr ⟨lw_p40, List.forall_mem_cons.mpr ⟨lw_p41, List.forall_mem_cons.mpr ⟨lw_p42, List.forall_mem_cons.mpr ⟨lw_p43, List.forall_mem_cons.mpr ⟨lw_p44, List.forall_mem_cons.mpr ⟨lw_p45, List.forall_mem_cons.mpr ⟨lw_p46, List.forall_mem_cons.mpr ⟨lw_p47, fun _ h => absurd h List.not_mem_nil⟩⟩⟩⟩⟩⟩⟩⟩⟩⟩⟩⟩⟩⟩⟩⟩
theorem lw_p48 : lw_okq (⟨"SpeedWarden$Script", "spells", "(IILjava/lang/String;)Z"⟩, 8) := ⟨⟨by decide +kernel, by decide +kernel⟩, List.mem_of_getElem? (i := 203) (by decide +kernel), List.mem_of_getElem? (i := 555) (by decide +kernel), List.mem_of_getElem? (i := 556) (by decide +kernel)⟩
theorem lw_p49 : lw_okq (⟨"SpeedWarden$Script", "readsNumber", "(IZ)Z"⟩, 8) := ⟨⟨by decide +kernel, by decide +kernel⟩, List.mem_of_getElem? (i := 203) (by decide +kernel), List.mem_of_getElem? (i := 607) (by decide +kernel), List.mem_of_getElem? (i := 608) (by decide +kernel)⟩
theorem lw_p50 : lw_okq (⟨"SpeedWarden$Script", "isAt", "(I)Z"⟩, 8) := ⟨⟨by decide +kernel, by decide +kernel⟩, List.mem_of_getElem? (i := 203) (by decide +kernel), List.mem_of_getElem? (i := 611) (by decide +kernel), List.mem_of_getElem? (i := 612) (by decide +kernel)⟩
theorem lw_p51 : lw_okq (⟨"SpeedWarden$Script", "isAtFigure", "()Z"⟩, 8) := ⟨⟨by decide +kernel, by decide +kernel⟩, List.mem_of_getElem? (i := 203) (by decide +kernel), List.mem_of_getElem? (i := 615) (by decide +kernel), List.mem_of_getElem? (i := 616) (by decide +kernel)⟩
theorem lw_p52 : lw_okq (⟨"SpeedWarden", "blames", "(II)V"⟩, 8) := ⟨⟨by decide +kernel, by decide +kernel⟩, List.mem_of_getElem? (i := 17) (by decide +kernel), List.mem_of_getElem? (i := 619) (by decide +kernel), List.mem_of_getElem? (i := 620) (by decide +kernel)⟩
theorem lw_p53 : lw_okq (⟨"SpeedWarden", "obeys", "(I)I"⟩, 8) := ⟨⟨by decide +kernel, by decide +kernel⟩, List.mem_of_getElem? (i := 17) (by decide +kernel), List.mem_of_getElem? (i := 623) (by decide +kernel), List.mem_of_getElem? (i := 624) (by decide +kernel)⟩
theorem lw_p54 : lw_okq (⟨"SpeedWarden$Script", "number", "(II)I"⟩, 8) := ⟨⟨by decide +kernel, by decide +kernel⟩, List.mem_of_getElem? (i := 203) (by decide +kernel), List.mem_of_getElem? (i := 627) (by decide +kernel), List.mem_of_getElem? (i := 628) (by decide +kernel)⟩
theorem lw_p55 : lw_okq (⟨"SpeedWarden$History", "noted", "()LSpeedWarden$State;"⟩, 3) := ⟨⟨by decide +kernel, by decide +kernel⟩, List.mem_of_getElem? (i := 183) (by decide +kernel), List.mem_of_getElem? (i := 631) (by decide +kernel), List.mem_of_getElem? (i := 632) (by decide +kernel)⟩
theorem lw_p56 : lw_okq (⟨"SpeedWarden$History", "takes", "()LSpeedWarden$State;"⟩, 3) := ⟨⟨by decide +kernel, by decide +kernel⟩, List.mem_of_getElem? (i := 183) (by decide +kernel), List.mem_of_getElem? (i := 645) (by decide +kernel), List.mem_of_getElem? (i := 646) (by decide +kernel)⟩
theorem lw_p57 : lw_okq (⟨"SpeedWarden", "toldValue", "(I)I"⟩, 8) := ⟨⟨by decide +kernel, by decide +kernel⟩, List.mem_of_getElem? (i := 17) (by decide +kernel), List.mem_of_getElem? (i := 653) (by decide +kernel), List.mem_of_getElem? (i := 654) (by decide +kernel)⟩
theorem lw_p58 : lw_okq (⟨"SpeedWardenModel", "mayLengthen", "(I)Z"⟩, 17) := ⟨⟨by decide +kernel, by decide +kernel⟩, List.mem_of_getElem? (i := 663) (by decide +kernel), List.mem_of_getElem? (i := 725) (by decide +kernel), List.mem_of_getElem? (i := 726) (by decide +kernel)⟩
theorem lw_p59 : lw_okq (⟨"SpeedWardenModel", "bad", "()I"⟩, 17) := ⟨⟨by decide +kernel, by decide +kernel⟩, List.mem_of_getElem? (i := 663) (by decide +kernel), List.mem_of_getElem? (i := 732) (by decide +kernel), List.mem_of_getElem? (i := 733) (by decide +kernel)⟩
theorem lw_p60 : lw_okq (⟨"SpeedWardenModel", "notes", "()V"⟩, 17) := ⟨⟨by decide +kernel, by decide +kernel⟩, List.mem_of_getElem? (i := 663) (by decide +kernel), List.mem_of_getElem? (i := 736) (by decide +kernel), List.mem_of_getElem? (i := 737) (by decide +kernel)⟩
theorem lw_p61 : lw_okq (⟨"SpeedWardenModel", "keepTo", "(I)V"⟩, 17) := ⟨⟨by decide +kernel, by decide +kernel⟩, List.mem_of_getElem? (i := 663) (by decide +kernel), List.mem_of_getElem? (i := 740) (by decide +kernel), List.mem_of_getElem? (i := 741) (by decide +kernel)⟩
theorem lw_p62 : lw_okq (⟨"SpeedWardenModel", "lengthen", "(I)I"⟩, 17) := ⟨⟨by decide +kernel, by decide +kernel⟩, List.mem_of_getElem? (i := 663) (by decide +kernel), List.mem_of_getElem? (i := 744) (by decide +kernel), List.mem_of_getElem? (i := 745) (by decide +kernel)⟩
theorem lw_p63 : lw_okq (⟨"SpeedWardenModel", "mayLay", "(IIII)Z"⟩, 17) := ⟨⟨by decide +kernel, by decide +kernel⟩, List.mem_of_getElem? (i := 663) (by decide +kernel), List.mem_of_getElem? (i := 752) (by decide +kernel), List.mem_of_getElem? (i := 753) (by decide +kernel)⟩
def lw_privs_4 : List (MethodName × Nat) := [(⟨"SpeedWarden$Script", "spells", "(IILjava/lang/String;)Z"⟩, 8), (⟨"SpeedWarden$Script", "readsNumber", "(IZ)Z"⟩, 8), (⟨"SpeedWarden$Script", "isAt", "(I)Z"⟩, 8), (⟨"SpeedWarden$Script", "isAtFigure", "()Z"⟩, 8), (⟨"SpeedWarden", "blames", "(II)V"⟩, 8), (⟨"SpeedWarden", "obeys", "(I)I"⟩, 8), (⟨"SpeedWarden$Script", "number", "(II)I"⟩, 8), (⟨"SpeedWarden$History", "noted", "()LSpeedWarden$State;"⟩, 3), (⟨"SpeedWarden$History", "takes", "()LSpeedWarden$State;"⟩, 3), (⟨"SpeedWarden", "toldValue", "(I)I"⟩, 8), (⟨"SpeedWardenModel", "mayLengthen", "(I)Z"⟩, 17), (⟨"SpeedWardenModel", "bad", "()I"⟩, 17), (⟨"SpeedWardenModel", "notes", "()V"⟩, 17), (⟨"SpeedWardenModel", "keepTo", "(I)V"⟩, 17), (⟨"SpeedWardenModel", "lengthen", "(I)I"⟩, 17), (⟨"SpeedWardenModel", "mayLay", "(IIII)Z"⟩, 17)]
theorem lw_r4 : ∀ q ∈ lw_privs_4, lw_okq q := List.forall_mem_cons.mpr ⟨lw_p48, List.forall_mem_cons.mpr ⟨lw_p49, List.forall_mem_cons.mpr ⟨lw_p50, List.forall_mem_cons.mpr ⟨lw_p51, List.forall_mem_cons.mpr ⟨lw_p52, List.forall_mem_cons.mpr ⟨lw_p53, List.forall_mem_cons.mpr ⟨lw_p54, List.forall_mem_cons.mpr ⟨lw_p55, List.forall_mem_cons.mpr ⟨lw_p56, List.forall_mem_cons.mpr ⟨lw_p57, List.forall_mem_cons.mpr ⟨lw_p58, List.forall_mem_cons.mpr ⟨lw_p59, List.forall_mem_cons.mpr ⟨lw_p60, List.forall_mem_cons.mpr ⟨lw_p61, List.forall_mem_cons.mpr ⟨lw_p62, List.forall_mem_cons.mpr ⟨lw_p63, fun _ h => absurd h List.not_mem_nil⟩⟩⟩⟩⟩⟩⟩⟩⟩⟩⟩⟩⟩⟩⟩⟩
theorem lw_p64 : lw_okq (⟨"SpeedWardenModel", "isCell", "(I)Z"⟩, 17) := ⟨⟨by decide +kernel, by decide +kernel⟩, List.mem_of_getElem? (i := 663) (by decide +kernel), List.mem_of_getElem? (i := 756) (by decide +kernel), List.mem_of_getElem? (i := 757) (by decide +kernel)⟩
theorem lw_p65 : lw_okq (⟨"SpeedWardenModel", "lay", "(IIII)I"⟩, 17) := ⟨⟨by decide +kernel, by decide +kernel⟩, List.mem_of_getElem? (i := 663) (by decide +kernel), List.mem_of_getElem? (i := 760) (by decide +kernel), List.mem_of_getElem? (i := 761) (by decide +kernel)⟩
theorem lw_p66 : lw_okq (⟨"SpeedWardenModel", "signal", "(II)I"⟩, 17) := ⟨⟨by decide +kernel, by decide +kernel⟩, List.mem_of_getElem? (i := 663) (by decide +kernel), List.mem_of_getElem? (i := 768) (by decide +kernel), List.mem_of_getElem? (i := 769) (by decide +kernel)⟩
theorem lw_p67 : lw_okq (⟨"SpeedWardenModel", "set", "(II)I"⟩, 17) := ⟨⟨by decide +kernel, by decide +kernel⟩, List.mem_of_getElem? (i := 663) (by decide +kernel), List.mem_of_getElem? (i := 779) (by decide +kernel), List.mem_of_getElem? (i := 780) (by decide +kernel)⟩
theorem lw_p68 : lw_okq (⟨"SpeedWardenModel", "tellCell", "(II)I"⟩, 17) := ⟨⟨by decide +kernel, by decide +kernel⟩, List.mem_of_getElem? (i := 663) (by decide +kernel), List.mem_of_getElem? (i := 787) (by decide +kernel), List.mem_of_getElem? (i := 788) (by decide +kernel)⟩
theorem lw_p69 : lw_okq (⟨"SpeedWardenModel", "ceiling", "(I)I"⟩, 17) := ⟨⟨by decide +kernel, by decide +kernel⟩, List.mem_of_getElem? (i := 663) (by decide +kernel), List.mem_of_getElem? (i := 791) (by decide +kernel), List.mem_of_getElem? (i := 792) (by decide +kernel)⟩
theorem lw_p70 : lw_okq (⟨"SpeedWardenModel", "grade", "(I)I"⟩, 17) := ⟨⟨by decide +kernel, by decide +kernel⟩, List.mem_of_getElem? (i := 663) (by decide +kernel), List.mem_of_getElem? (i := 795) (by decide +kernel), List.mem_of_getElem? (i := 796) (by decide +kernel)⟩
theorem lw_p71 : lw_okq (⟨"SpeedWardenModel", "decel", "(I)I"⟩, 17) := ⟨⟨by decide +kernel, by decide +kernel⟩, List.mem_of_getElem? (i := 663) (by decide +kernel), List.mem_of_getElem? (i := 799) (by decide +kernel), List.mem_of_getElem? (i := 800) (by decide +kernel)⟩
theorem lw_p72 : lw_okq (⟨"SpeedWardenModel", "inForce", "(I)I"⟩, 17) := ⟨⟨by decide +kernel, by decide +kernel⟩, List.mem_of_getElem? (i := 663) (by decide +kernel), List.mem_of_getElem? (i := 803) (by decide +kernel), List.mem_of_getElem? (i := 804) (by decide +kernel)⟩
theorem lw_p73 : lw_okq (⟨"SpeedWardenModel", "lawfuls", "()V"⟩, 17) := ⟨⟨by decide +kernel, by decide +kernel⟩, List.mem_of_getElem? (i := 663) (by decide +kernel), List.mem_of_getElem? (i := 811) (by decide +kernel), List.mem_of_getElem? (i := 812) (by decide +kernel)⟩
theorem lw_p74 : lw_okq (⟨"SpeedWardenModel", "standing", "(II)I"⟩, 17) := ⟨⟨by decide +kernel, by decide +kernel⟩, List.mem_of_getElem? (i := 663) (by decide +kernel), List.mem_of_getElem? (i := 830) (by decide +kernel), List.mem_of_getElem? (i := 831) (by decide +kernel)⟩
theorem lw_p75 : lw_okq (⟨"SpeedWardenModel", "supervises", "()V"⟩, 17) := ⟨⟨by decide +kernel, by decide +kernel⟩, List.mem_of_getElem? (i := 663) (by decide +kernel), List.mem_of_getElem? (i := 846) (by decide +kernel), List.mem_of_getElem? (i := 847) (by decide +kernel)⟩
theorem lw_p76 : lw_okq (⟨"SpeedWardenModel", "sees", "()I"⟩, 17) := ⟨⟨by decide +kernel, by decide +kernel⟩, List.mem_of_getElem? (i := 663) (by decide +kernel), List.mem_of_getElem? (i := 850) (by decide +kernel), List.mem_of_getElem? (i := 851) (by decide +kernel)⟩
theorem lw_p77 : lw_okq (⟨"SpeedWardenModel", "first", "()I"⟩, 17) := ⟨⟨by decide +kernel, by decide +kernel⟩, List.mem_of_getElem? (i := 663) (by decide +kernel), List.mem_of_getElem? (i := 854) (by decide +kernel), List.mem_of_getElem? (i := 855) (by decide +kernel)⟩
theorem lw_p78 : lw_okq (⟨"SpeedWardenModel", "cellAt", "(I)I"⟩, 17) := ⟨⟨by decide +kernel, by decide +kernel⟩, List.mem_of_getElem? (i := 663) (by decide +kernel), List.mem_of_getElem? (i := 858) (by decide +kernel), List.mem_of_getElem? (i := 859) (by decide +kernel)⟩
theorem lw_p79 : lw_okq (⟨"SpeedWardenModel", "last", "()I"⟩, 17) := ⟨⟨by decide +kernel, by decide +kernel⟩, List.mem_of_getElem? (i := 663) (by decide +kernel), List.mem_of_getElem? (i := 862) (by decide +kernel), List.mem_of_getElem? (i := 863) (by decide +kernel)⟩
def lw_privs_5 : List (MethodName × Nat) := [(⟨"SpeedWardenModel", "isCell", "(I)Z"⟩, 17), (⟨"SpeedWardenModel", "lay", "(IIII)I"⟩, 17), (⟨"SpeedWardenModel", "signal", "(II)I"⟩, 17), (⟨"SpeedWardenModel", "set", "(II)I"⟩, 17), (⟨"SpeedWardenModel", "tellCell", "(II)I"⟩, 17), (⟨"SpeedWardenModel", "ceiling", "(I)I"⟩, 17), (⟨"SpeedWardenModel", "grade", "(I)I"⟩, 17), (⟨"SpeedWardenModel", "decel", "(I)I"⟩, 17), (⟨"SpeedWardenModel", "inForce", "(I)I"⟩, 17), (⟨"SpeedWardenModel", "lawfuls", "()V"⟩, 17), (⟨"SpeedWardenModel", "standing", "(II)I"⟩, 17), (⟨"SpeedWardenModel", "supervises", "()V"⟩, 17), (⟨"SpeedWardenModel", "sees", "()I"⟩, 17), (⟨"SpeedWardenModel", "first", "()I"⟩, 17), (⟨"SpeedWardenModel", "cellAt", "(I)I"⟩, 17), (⟨"SpeedWardenModel", "last", "()I"⟩, 17)]
theorem lw_r5 : ∀ q ∈ lw_privs_5, lw_okq q := List.forall_mem_cons.mpr ⟨lw_p64, List.forall_mem_cons.mpr ⟨lw_p65, List.forall_mem_cons.mpr ⟨lw_p66, List.forall_mem_cons.mpr ⟨lw_p67, List.forall_mem_cons.mpr ⟨lw_p68, List.forall_mem_cons.mpr ⟨lw_p69, List.forall_mem_cons.mpr ⟨lw_p70, List.forall_mem_cons.mpr ⟨lw_p71, List.forall_mem_cons.mpr ⟨lw_p72, List.forall_mem_cons.mpr ⟨lw_p73, List.forall_mem_cons.mpr ⟨lw_p74, List.forall_mem_cons.mpr ⟨lw_p75, List.forall_mem_cons.mpr ⟨lw_p76, List.forall_mem_cons.mpr ⟨lw_p77, List.forall_mem_cons.mpr ⟨lw_p78, List.forall_mem_cons.mpr ⟨lw_p79, fun _ h => absurd h List.not_mem_nil⟩⟩⟩⟩⟩⟩⟩⟩⟩⟩⟩⟩⟩⟩⟩⟩
theorem lw_p80 : lw_okq (⟨"SpeedWardenModel", "leastOf", "(II)I"⟩, 17) := ⟨⟨by decide +kernel, by decide +kernel⟩, List.mem_of_getElem? (i := 663) (by decide +kernel), List.mem_of_getElem? (i := 866) (by decide +kernel), List.mem_of_getElem? (i := 867) (by decide +kernel)⟩
theorem lw_p81 : lw_okq (⟨"SpeedWardenModel", "goesOn", "(I)Z"⟩, 17) := ⟨⟨by decide +kernel, by decide +kernel⟩, List.mem_of_getElem? (i := 663) (by decide +kernel), List.mem_of_getElem? (i := 874) (by decide +kernel), List.mem_of_getElem? (i := 875) (by decide +kernel)⟩
theorem lw_p82 : lw_okq (⟨"SpeedWardenModel", "gainOf", "(II)I"⟩, 17) := ⟨⟨by decide +kernel, by decide +kernel⟩, List.mem_of_getElem? (i := 663) (by decide +kernel), List.mem_of_getElem? (i := 878) (by decide +kernel), List.mem_of_getElem? (i := 879) (by decide +kernel)⟩
theorem lw_p83 : lw_okq (⟨"SpeedWardenModel", "handle", "()I"⟩, 17) := ⟨⟨by decide +kernel, by decide +kernel⟩, List.mem_of_getElem? (i := 663) (by decide +kernel), List.mem_of_getElem? (i := 886) (by decide +kernel), List.mem_of_getElem? (i := 887) (by decide +kernel)⟩
theorem lw_p84 : lw_okq (⟨"SpeedWardenModel", "no", "()I"⟩, 17) := ⟨⟨by decide +kernel, by decide +kernel⟩, List.mem_of_getElem? (i := 663) (by decide +kernel), List.mem_of_getElem? (i := 894) (by decide +kernel), List.mem_of_getElem? (i := 895) (by decide +kernel)⟩
theorem lw_p85 : lw_okq (⟨"SpeedWardenModel", "tellTrain", "(I)I"⟩, 17) := ⟨⟨by decide +kernel, by decide +kernel⟩, List.mem_of_getElem? (i := 663) (by decide +kernel), List.mem_of_getElem? (i := 902) (by decide +kernel), List.mem_of_getElem? (i := 903) (by decide +kernel)⟩
theorem lw_p86 : lw_okq (⟨"SpeedWardenModel", "reads", "()Z"⟩, 17) := ⟨⟨by decide +kernel, by decide +kernel⟩, List.mem_of_getElem? (i := 663) (by decide +kernel), List.mem_of_getElem? (i := 918) (by decide +kernel), List.mem_of_getElem? (i := 919) (by decide +kernel)⟩
theorem lw_p87 : lw_okq (⟨"SpeedWardenModel", "skips", "()V"⟩, 17) := ⟨⟨by decide +kernel, by decide +kernel⟩, List.mem_of_getElem? (i := 663) (by decide +kernel), List.mem_of_getElem? (i := 922) (by decide +kernel), List.mem_of_getElem? (i := 923) (by decide +kernel)⟩
theorem lw_p88 : lw_okq (⟨"SpeedWardenModel", "here", "()I"⟩, 17) := ⟨⟨by decide +kernel, by decide +kernel⟩, List.mem_of_getElem? (i := 663) (by decide +kernel), List.mem_of_getElem? (i := 926) (by decide +kernel), List.mem_of_getElem? (i := 927) (by decide +kernel)⟩
theorem lw_p89 : lw_okq (⟨"SpeedWardenModel", "order", "()Z"⟩, 17) := ⟨⟨by decide +kernel, by decide +kernel⟩, List.mem_of_getElem? (i := 663) (by decide +kernel), List.mem_of_getElem? (i := 930) (by decide +kernel), List.mem_of_getElem? (i := 931) (by decide +kernel)⟩
theorem lw_p90 : lw_okq (⟨"SpeedWardenModel", "stopsHere", "()Z"⟩, 17) := ⟨⟨by decide +kernel, by decide +kernel⟩, List.mem_of_getElem? (i := 663) (by decide +kernel), List.mem_of_getElem? (i := 934) (by decide +kernel), List.mem_of_getElem? (i := 935) (by decide +kernel)⟩
theorem lw_p91 : lw_okq (⟨"SpeedWardenModel", "wordFrom", "(I)I"⟩, 17) := ⟨⟨by decide +kernel, by decide +kernel⟩, List.mem_of_getElem? (i := 663) (by decide +kernel), List.mem_of_getElem? (i := 938) (by decide +kernel), List.mem_of_getElem? (i := 939) (by decide +kernel)⟩
theorem lw_p92 : lw_okq (⟨"SpeedWardenModel", "spells", "(IIIII)Z"⟩, 17) := ⟨⟨by decide +kernel, by decide +kernel⟩, List.mem_of_getElem? (i := 663) (by decide +kernel), List.mem_of_getElem? (i := 942) (by decide +kernel), List.mem_of_getElem? (i := 943) (by decide +kernel)⟩
theorem lw_p93 : lw_okq (⟨"SpeedWardenModel", "number", "(ZI)Z"⟩, 17) := ⟨⟨by decide +kernel, by decide +kernel⟩, List.mem_of_getElem? (i := 663) (by decide +kernel), List.mem_of_getElem? (i := 946) (by decide +kernel), List.mem_of_getElem? (i := 947) (by decide +kernel)⟩
theorem lw_p94 : lw_okq (⟨"SpeedWardenModel", "isFigure", "()Z"⟩, 17) := ⟨⟨by decide +kernel, by decide +kernel⟩, List.mem_of_getElem? (i := 663) (by decide +kernel), List.mem_of_getElem? (i := 950) (by decide +kernel), List.mem_of_getElem? (i := 951) (by decide +kernel)⟩
theorem lw_p95 : lw_okq (⟨"SpeedWardenModel", "isDone", "(I)Z"⟩, 17) := ⟨⟨by decide +kernel, by decide +kernel⟩, List.mem_of_getElem? (i := 663) (by decide +kernel), List.mem_of_getElem? (i := 954) (by decide +kernel), List.mem_of_getElem? (i := 955) (by decide +kernel)⟩
def lw_privs_6 : List (MethodName × Nat) := [(⟨"SpeedWardenModel", "leastOf", "(II)I"⟩, 17), (⟨"SpeedWardenModel", "goesOn", "(I)Z"⟩, 17), (⟨"SpeedWardenModel", "gainOf", "(II)I"⟩, 17), (⟨"SpeedWardenModel", "handle", "()I"⟩, 17), (⟨"SpeedWardenModel", "no", "()I"⟩, 17), (⟨"SpeedWardenModel", "tellTrain", "(I)I"⟩, 17), (⟨"SpeedWardenModel", "reads", "()Z"⟩, 17), (⟨"SpeedWardenModel", "skips", "()V"⟩, 17), (⟨"SpeedWardenModel", "here", "()I"⟩, 17), (⟨"SpeedWardenModel", "order", "()Z"⟩, 17), (⟨"SpeedWardenModel", "stopsHere", "()Z"⟩, 17), (⟨"SpeedWardenModel", "wordFrom", "(I)I"⟩, 17), (⟨"SpeedWardenModel", "spells", "(IIIII)Z"⟩, 17), (⟨"SpeedWardenModel", "number", "(ZI)Z"⟩, 17), (⟨"SpeedWardenModel", "isFigure", "()Z"⟩, 17), (⟨"SpeedWardenModel", "isDone", "(I)Z"⟩, 17)]
theorem lw_r6 : ∀ q ∈ lw_privs_6, lw_okq q := List.forall_mem_cons.mpr ⟨lw_p80, List.forall_mem_cons.mpr ⟨lw_p81, List.forall_mem_cons.mpr ⟨lw_p82, List.forall_mem_cons.mpr ⟨lw_p83, List.forall_mem_cons.mpr ⟨lw_p84, List.forall_mem_cons.mpr ⟨lw_p85, List.forall_mem_cons.mpr ⟨lw_p86, List.forall_mem_cons.mpr ⟨lw_p87, List.forall_mem_cons.mpr ⟨lw_p88, List.forall_mem_cons.mpr ⟨lw_p89, List.forall_mem_cons.mpr ⟨lw_p90, List.forall_mem_cons.mpr ⟨lw_p91, List.forall_mem_cons.mpr ⟨lw_p92, List.forall_mem_cons.mpr ⟨lw_p93, List.forall_mem_cons.mpr ⟨lw_p94, List.forall_mem_cons.mpr ⟨lw_p95, fun _ h => absurd h List.not_mem_nil⟩⟩⟩⟩⟩⟩⟩⟩⟩⟩⟩⟩⟩⟩⟩⟩
theorem lw_p96 : lw_okq (⟨"SpeedWardenModel", "takeFrom", "(I)V"⟩, 17) := ⟨⟨by decide +kernel, by decide +kernel⟩, List.mem_of_getElem? (i := 663) (by decide +kernel), List.mem_of_getElem? (i := 958) (by decide +kernel), List.mem_of_getElem? (i := 959) (by decide +kernel)⟩
theorem lw_p97 : lw_okq (⟨"SpeedWardenModel", "leaves", "()V"⟩, 17) := ⟨⟨by decide +kernel, by decide +kernel⟩, List.mem_of_getElem? (i := 663) (by decide +kernel), List.mem_of_getElem? (i := 962) (by decide +kernel), List.mem_of_getElem? (i := 963) (by decide +kernel)⟩
theorem lw_p98 : lw_okq (⟨"SpeedWardenModel", "tellWhy", "(I)I"⟩, 17) := ⟨⟨by decide +kernel, by decide +kernel⟩, List.mem_of_getElem? (i := 663) (by decide +kernel), List.mem_of_getElem? (i := 970) (by decide +kernel), List.mem_of_getElem? (i := 971) (by decide +kernel)⟩
theorem lw_p99 : lw_okq (⟨"SpeedWardenModel", "tell", "(I)I"⟩, 17) := ⟨⟨by decide +kernel, by decide +kernel⟩, List.mem_of_getElem? (i := 663) (by decide +kernel), List.mem_of_getElem? (i := 982) (by decide +kernel), List.mem_of_getElem? (i := 983) (by decide +kernel)⟩
def lw_privs_7 : List (MethodName × Nat) := [(⟨"SpeedWardenModel", "takeFrom", "(I)V"⟩, 17), (⟨"SpeedWardenModel", "leaves", "()V"⟩, 17), (⟨"SpeedWardenModel", "tellWhy", "(I)I"⟩, 17), (⟨"SpeedWardenModel", "tell", "(I)I"⟩, 17)]
theorem lw_r7 : ∀ q ∈ lw_privs_7, lw_okq q := List.forall_mem_cons.mpr ⟨lw_p96, List.forall_mem_cons.mpr ⟨lw_p97, List.forall_mem_cons.mpr ⟨lw_p98, List.forall_mem_cons.mpr ⟨lw_p99, fun _ h => absurd h List.not_mem_nil⟩⟩⟩⟩
def lw_privs : List (MethodName × Nat) := lw_privs_1 ++ (lw_privs_2 ++ (lw_privs_3 ++ (lw_privs_4 ++ (lw_privs_5 ++ (lw_privs_6 ++ (lw_privs_7))))))
def lw_tbl : List Cond := k2_sels lw_privs ++ tables_1
theorem lw_privs_ok : ∀ q ∈ lw_privs, lw_okq q := by
  show ∀ q ∈ lw_privs_1 ++ (lw_privs_2 ++ (lw_privs_3 ++ (lw_privs_4 ++ (lw_privs_5 ++ (lw_privs_6 ++ (lw_privs_7)))))), lw_okq q
  exact List.forall_mem_append.mpr ⟨lw_r1, List.forall_mem_append.mpr ⟨lw_r2, List.forall_mem_append.mpr ⟨lw_r3, List.forall_mem_append.mpr ⟨lw_r4, List.forall_mem_append.mpr ⟨lw_r5, List.forall_mem_append.mpr ⟨lw_r6, lw_r7⟩⟩⟩⟩⟩⟩
end
section
def RX0 : String := "SpeedWarden$Curve"
def TX0 : u_T := fun k => match k with
  | 0 => ("SpeedWarden$Curve", "inForce", "[I", true)
  | _ => ("SpeedWarden$Curve", "squares", "[I", true)
def tyX0 : Nat → FieldType := fun k => match k with
  | 0 => .array .int
  | _ => .array .int
abbrev wsX00 : List Cond := u_ws RX0 TX0 2
theorem nmX0 : ∀ a, a < 2 → ∀ b, b < 2 → a ≠ b → (TX0 a).2.1 ≠ (TX0 b).2.1 := by decide +kernel
theorem tyX0_ok : ∀ k, k < 2 → parseFieldDescriptor (TX0 k).2.2.1 = some (tyX0 k) := by decide +kernel
abbrev cX0_init : ByteArray := prog_2_method_1_code
def yX0_init : MethodName := ⟨RX0, "<init>", "()V"⟩
abbrev cX0_draws : ByteArray := prog_2_method_2_code
def yX0_draws : MethodName := ⟨RX0, "draws", "(LSpeedWarden$Track;)V"⟩
abbrev cX0_drawsCeilings : ByteArray := prog_2_method_3_code
def yX0_drawsCeilings : MethodName := ⟨RX0, "drawsCeilings", "(LSpeedWarden$Track;)V"⟩
abbrev cX0_leastCeiling : ByteArray := prog_2_method_4_code
def yX0_leastCeiling : MethodName := ⟨RX0, "leastCeiling", "([III)I"⟩
abbrev cX0_boundOf : ByteArray := prog_2_method_5_code
def yX0_boundOf : MethodName := ⟨RX0, "boundOf", "(LSpeedWarden$Track;I)I"⟩
abbrev cX0_leastSquare : ByteArray := prog_2_method_6_code
def yX0_leastSquare : MethodName := ⟨RX0, "leastSquare", "(II)I"⟩
def RX1 : String := "SpeedWarden$History"
def TX1 : u_T := fun k => match k with
  | 0 => ("SpeedWarden$History", "states", "[LSpeedWarden$State;", true)
  | 1 => ("SpeedWarden$History", "next", "I", false)
  | _ => ("SpeedWarden$History", "held", "I", false)
def tyX1 : Nat → FieldType := fun k => match k with
  | 0 => .array (.object "SpeedWarden$State")
  | 1 => .int
  | _ => .int
abbrev wsX10 : List Cond := u_ws RX1 TX1 3
theorem nmX1 : ∀ a, a < 3 → ∀ b, b < 3 → a ≠ b → (TX1 a).2.1 ≠ (TX1 b).2.1 := by decide +kernel
theorem tyX1_ok : ∀ k, k < 3 → parseFieldDescriptor (TX1 k).2.2.1 = some (tyX1 k) := by decide +kernel
abbrev cX1_init : ByteArray := prog_3_method_1_code
def yX1_init : MethodName := ⟨RX1, "<init>", "()V"⟩
abbrev cX1_notes : ByteArray := prog_3_method_2_code
def yX1_notes : MethodName := ⟨RX1, "notes", "(LSpeedWarden$State;)V"⟩
abbrev cX1_noted : ByteArray := prog_3_method_3_code
def yX1_noted : MethodName := ⟨RX1, "noted", "()LSpeedWarden$State;"⟩
abbrev cX1_keeps : ByteArray := prog_3_method_4_code
def yX1_keeps : MethodName := ⟨RX1, "keeps", "()V"⟩
abbrev cX1_takes : ByteArray := prog_3_method_5_code
def yX1_takes : MethodName := ⟨RX1, "takes", "()LSpeedWarden$State;"⟩
def RX2 : String := "SpeedWarden$Line"
def TX2 : u_T := fun k => match k with
  | 0 => ("SpeedWarden$Line", "state", "LSpeedWarden$State;", true)
  | 1 => ("SpeedWarden$Line", "track", "LSpeedWarden$Track;", true)
  | 2 => ("SpeedWarden$Line", "train", "LSpeedWarden$Train;", true)
  | _ => ("SpeedWarden$Line", "curve", "LSpeedWarden$Curve;", true)
def tyX2 : Nat → FieldType := fun k => match k with
  | 0 => .object "SpeedWarden$State"
  | 1 => .object "SpeedWarden$Track"
  | 2 => .object "SpeedWarden$Train"
  | _ => .object "SpeedWarden$Curve"
abbrev wsX20 : List Cond := u_ws RX2 TX2 4
theorem nmX2 : ∀ a, a < 4 → ∀ b, b < 4 → a ≠ b → (TX2 a).2.1 ≠ (TX2 b).2.1 := by decide +kernel
theorem tyX2_ok : ∀ k, k < 4 → parseFieldDescriptor (TX2 k).2.2.1 = some (tyX2 k) := by decide +kernel
abbrev cX2_init : ByteArray := prog_4_method_1_code
def yX2_init : MethodName := ⟨RX2, "<init>", "()V"⟩
abbrev cX2_redraws : ByteArray := prog_4_method_2_code
def yX2_redraws : MethodName := ⟨RX2, "redraws", "()V"⟩
abbrev cX2_resizes : ByteArray := prog_4_method_3_code
def yX2_resizes : MethodName := ⟨RX2, "resizes", "(I)I"⟩
abbrev cX2_cellValue : ByteArray := prog_4_method_4_code
def yX2_cellValue : MethodName := ⟨RX2, "cellValue", "(II)I"⟩
abbrev cX2_countPermitted : ByteArray := prog_4_method_5_code
def yX2_countPermitted : MethodName := ⟨RX2, "countPermitted", "(I)I"⟩
abbrev cX2_putsTrain : ByteArray := prog_4_method_6_code
def yX2_putsTrain : MethodName := ⟨RX2, "putsTrain", "(II)I"⟩
abbrev cX2_stepsOnce : ByteArray := prog_4_method_7_code
def yX2_stepsOnce : MethodName := ⟨RX2, "stepsOnce", "(I)I"⟩
abbrev cX2_stepsByDriver : ByteArray := prog_4_method_8_code
def yX2_stepsByDriver : MethodName := ⟨RX2, "stepsByDriver", "(I)I"⟩
abbrev cX2_releases : ByteArray := prog_4_method_9_code
def yX2_releases : MethodName := ⟨RX2, "releases", "()I"⟩
abbrev cX2_goesOn : ByteArray := prog_4_method_10_code
def yX2_goesOn : MethodName := ⟨RX2, "goesOn", "(I)Z"⟩
abbrev cX2_gain : ByteArray := prog_4_method_11_code
def yX2_gain : MethodName := ⟨RX2, "gain", "(II)I"⟩
abbrev cX2_supervises : ByteArray := prog_4_method_12_code
def yX2_supervises : MethodName := ⟨RX2, "supervises", "()V"⟩
abbrev cX2_driverHandle : ByteArray := prog_4_method_13_code
def yX2_driverHandle : MethodName := ⟨RX2, "driverHandle", "()I"⟩
abbrev cX2_spanFirst : ByteArray := prog_4_method_14_code
def yX2_spanFirst : MethodName := ⟨RX2, "spanFirst", "()I"⟩
abbrev cX2_spanLast : ByteArray := prog_4_method_15_code
def yX2_spanLast : MethodName := ⟨RX2, "spanLast", "()I"⟩
abbrev cX2_kept : ByteArray := prog_4_method_16_code
def yX2_kept : MethodName := ⟨RX2, "kept", "(I)I"⟩
abbrev cX2_seen : ByteArray := prog_4_method_17_code
def yX2_seen : MethodName := ⟨RX2, "seen", "()I"⟩
abbrev cX2_trainValue : ByteArray := prog_4_method_18_code
def yX2_trainValue : MethodName := ⟨RX2, "trainValue", "(I)I"⟩
def RX3 : String := "SpeedWarden$Script"
def TX3 : u_T := fun k => match k with
  | 0 => ("SpeedWarden$Script", "bytes", "[I", true)
  | 1 => ("SpeedWarden$Script", "count", "I", false)
  | 2 => ("SpeedWarden$Script", "place", "I", false)
  | 3 => ("SpeedWarden$Script", "cause", "I", false)
  | 4 => ("SpeedWarden$Script", "fault", "I", false)
  | 5 => ("SpeedWarden$Script", "orders", "I", false)
  | 6 => ("SpeedWarden$Script", "words", "[I", true)
  | _ => ("SpeedWarden$Script", "numbers", "[I", true)
def tyX3 : Nat → FieldType := fun k => match k with
  | 0 => .array .int
  | 1 => .int
  | 2 => .int
  | 3 => .int
  | 4 => .int
  | 5 => .int
  | 6 => .array .int
  | _ => .array .int
abbrev wsX30 : List Cond := u_ws RX3 TX3 8
theorem nmX3 : ∀ a, a < 8 → ∀ b, b < 8 → a ≠ b → (TX3 a).2.1 ≠ (TX3 b).2.1 := by decide +kernel
theorem tyX3_ok : ∀ k, k < 8 → parseFieldDescriptor (TX3 k).2.2.1 = some (tyX3 k) := by decide +kernel
abbrev cX3_init : ByteArray := prog_5_method_1_code
def yX3_init : MethodName := ⟨RX3, "<init>", "()V"⟩
abbrev cX3_adds : ByteArray := prog_5_method_2_code
def yX3_adds : MethodName := ⟨RX3, "adds", "(I)I"⟩
abbrev cX3_empties : ByteArray := prog_5_method_3_code
def yX3_empties : MethodName := ⟨RX3, "empties", "()I"⟩
abbrev cX3_number : ByteArray := prog_5_method_4_code
def yX3_number : MethodName := ⟨RX3, "number", "(II)I"⟩
abbrev cX3_isReadable : ByteArray := prog_5_method_5_code
def yX3_isReadable : MethodName := ⟨RX3, "isReadable", "()Z"⟩
abbrev cX3_readsOrder : ByteArray := prog_5_method_6_code
def yX3_readsOrder : MethodName := ⟨RX3, "readsOrder", "(I)Z"⟩
abbrev cX3_readsNumber : ByteArray := prog_5_method_7_code
def yX3_readsNumber : MethodName := ⟨RX3, "readsNumber", "(IZ)Z"⟩
abbrev cX3_faulty : ByteArray := prog_5_method_8_code
def yX3_faulty : MethodName := ⟨RX3, "faulty", "(II)Z"⟩
abbrev cX3_skipsBlanks : ByteArray := prog_5_method_9_code
def yX3_skipsBlanks : MethodName := ⟨RX3, "skipsBlanks", "()V"⟩
abbrev cX3_skipsLetters : ByteArray := prog_5_method_10_code
def yX3_skipsLetters : MethodName := ⟨RX3, "skipsLetters", "()V"⟩
abbrev cX3_isAt : ByteArray := prog_5_method_11_code
def yX3_isAt : MethodName := ⟨RX3, "isAt", "(I)Z"⟩
abbrev cX3_isAtFigure : ByteArray := prog_5_method_12_code
def yX3_isAtFigure : MethodName := ⟨RX3, "isAtFigure", "()Z"⟩
abbrev cX3_wordBetween : ByteArray := prog_5_method_13_code
def yX3_wordBetween : MethodName := ⟨RX3, "wordBetween", "(II)I"⟩
abbrev cX3_spells : ByteArray := prog_5_method_14_code
def yX3_spells : MethodName := ⟨RX3, "spells", "(IILjava/lang/String;)Z"⟩
abbrev cX3_spelling : ByteArray := prog_5_method_15_code
def yX3_spelling : MethodName := ⟨RX3, "spelling", "(I)Ljava/lang/String;"⟩
def RX4 : String := "SpeedWarden$State"
def TX4 : u_T := fun k => match k with
  | 0 => ("SpeedWarden$State", "track", "LSpeedWarden$Track;", true)
  | _ => ("SpeedWarden$State", "train", "LSpeedWarden$Train;", true)
def tyX4 : Nat → FieldType := fun k => match k with
  | 0 => .object "SpeedWarden$Track"
  | _ => .object "SpeedWarden$Train"
abbrev wsX40 : List Cond := u_ws RX4 TX4 2
theorem nmX4 : ∀ a, a < 2 → ∀ b, b < 2 → a ≠ b → (TX4 a).2.1 ≠ (TX4 b).2.1 := by decide +kernel
theorem tyX4_ok : ∀ k, k < 2 → parseFieldDescriptor (TX4 k).2.2.1 = some (tyX4 k) := by decide +kernel
abbrev cX4_init : ByteArray := prog_6_method_1_code
def yX4_init : MethodName := ⟨RX4, "<init>", "()V"⟩
abbrev cX4_copies : ByteArray := prog_6_method_2_code
def yX4_copies : MethodName := ⟨RX4, "copies", "(LSpeedWarden$State;)V"⟩
def RX5 : String := "SpeedWarden$Track"
def TX5 : u_T := fun k => match k with
  | 0 => ("SpeedWarden$Track", "size", "I", false)
  | 1 => ("SpeedWarden$Track", "ceilings", "[I", true)
  | 2 => ("SpeedWarden$Track", "grades", "[I", true)
  | 3 => ("SpeedWarden$Track", "beacons", "[I", true)
  | _ => ("SpeedWarden$Track", "settings", "[I", true)
def tyX5 : Nat → FieldType := fun k => match k with
  | 0 => .int
  | 1 => .array .int
  | 2 => .array .int
  | 3 => .array .int
  | _ => .array .int
abbrev wsX50 : List Cond := u_ws RX5 TX5 5
theorem nmX5 : ∀ a, a < 5 → ∀ b, b < 5 → a ≠ b → (TX5 a).2.1 ≠ (TX5 b).2.1 := by decide +kernel
theorem tyX5_ok : ∀ k, k < 5 → parseFieldDescriptor (TX5 k).2.2.1 = some (tyX5 k) := by decide +kernel
abbrev cX5_init : ByteArray := prog_7_method_1_code
def yX5_init : MethodName := ⟨RX5, "<init>", "()V"⟩
abbrev cX5_copies : ByteArray := prog_7_method_2_code
def yX5_copies : MethodName := ⟨RX5, "copies", "(LSpeedWarden$Track;)V"⟩
abbrev cX5_has : ByteArray := prog_7_method_3_code
def yX5_has : MethodName := ⟨RX5, "has", "(I)Z"⟩
abbrev cX5_decel : ByteArray := prog_7_method_4_code
def yX5_decel : MethodName := ⟨RX5, "decel", "(I)I"⟩
abbrev cX5_resized : ByteArray := prog_7_method_5_code
def yX5_resized : MethodName := ⟨RX5, "resized", "(I)I"⟩
abbrev cX5_relaid : ByteArray := prog_7_method_6_code
def yX5_relaid : MethodName := ⟨RX5, "relaid", "(IIII)I"⟩
abbrev cX5_filled : ByteArray := prog_7_method_7_code
def yX5_filled : MethodName := ⟨RX5, "filled", "([IIII)I"⟩
abbrev cX5_marked : ByteArray := prog_7_method_8_code
def yX5_marked : MethodName := ⟨RX5, "marked", "(II)I"⟩
abbrev cX5_adjusted : ByteArray := prog_7_method_9_code
def yX5_adjusted : MethodName := ⟨RX5, "adjusted", "(II)I"⟩
abbrev cX5_cellsToStand : ByteArray := prog_7_method_10_code
def yX5_cellsToStand : MethodName := ⟨RX5, "cellsToStand", "(II)I"⟩
abbrev cX5_fastestToStand : ByteArray := prog_7_method_11_code
def yX5_fastestToStand : MethodName := ⟨RX5, "fastestToStand", "(II)I"⟩
def RX6 : String := "SpeedWarden$Train"
def TX6 : u_T := fun k => match k with
  | 0 => ("SpeedWarden$Train", "front", "I", false)
  | 1 => ("SpeedWarden$Train", "square", "I", false)
  | 2 => ("SpeedWarden$Train", "mode", "I", false)
  | 3 => ("SpeedWarden$Train", "low", "I", false)
  | 4 => ("SpeedWarden$Train", "high", "I", false)
  | 5 => ("SpeedWarden$Train", "alarms", "I", false)
  | 6 => ("SpeedWarden$Train", "overruns", "I", false)
  | _ => ("SpeedWarden$Train", "wentOn", "I", false)
def tyX6 : Nat → FieldType := fun k => match k with
  | 0 => .int
  | 1 => .int
  | 2 => .int
  | 3 => .int
  | 4 => .int
  | 5 => .int
  | 6 => .int
  | _ => .int
abbrev wsX60 : List Cond := u_ws RX6 TX6 8
theorem nmX6 : ∀ a, a < 8 → ∀ b, b < 8 → a ≠ b → (TX6 a).2.1 ≠ (TX6 b).2.1 := by decide +kernel
theorem tyX6_ok : ∀ k, k < 8 → parseFieldDescriptor (TX6 k).2.2.1 = some (tyX6 k) := by decide +kernel
abbrev cX6_init : ByteArray := prog_8_method_1_code
def yX6_init : MethodName := ⟨RX6, "<init>", "()V"⟩
abbrev cX6_copies : ByteArray := prog_8_method_2_code
def yX6_copies : MethodName := ⟨RX6, "copies", "(LSpeedWarden$Train;)V"⟩
abbrev cX6_puts : ByteArray := prog_8_method_3_code
def yX6_puts : MethodName := ⟨RX6, "puts", "(II)V"⟩
abbrev cX6_knowsPlace : ByteArray := prog_8_method_4_code
def yX6_knowsPlace : MethodName := ⟨RX6, "knowsPlace", "()V"⟩
abbrev cX6_goesOn : ByteArray := prog_8_method_5_code
def yX6_goesOn : MethodName := ⟨RX6, "goesOn", "(ILSpeedWarden$Track;)V"⟩
def RX7 : String := "SpeedWarden"
def TX7 : u_T := fun k => match k with
  | 0 => ("SpeedWarden", "line", "LSpeedWarden$Line;", true)
  | 1 => ("SpeedWarden", "history", "LSpeedWarden$History;", true)
  | 2 => ("SpeedWarden", "script", "LSpeedWarden$Script;", true)
  | 3 => ("SpeedWarden", "bads", "I", false)
  | 4 => ("SpeedWarden", "nos", "I", false)
  | 5 => ("SpeedWarden", "fulls", "I", false)
  | 6 => ("SpeedWarden", "cause", "I", false)
  | _ => ("SpeedWarden", "where", "I", false)
def tyX7 : Nat → FieldType := fun k => match k with
  | 0 => .object "SpeedWarden$Line"
  | 1 => .object "SpeedWarden$History"
  | 2 => .object "SpeedWarden$Script"
  | 3 => .int
  | 4 => .int
  | 5 => .int
  | 6 => .int
  | _ => .int
abbrev wsX70 : List Cond := u_ws RX7 TX7 8
theorem nmX7 : ∀ a, a < 8 → ∀ b, b < 8 → a ≠ b → (TX7 a).2.1 ≠ (TX7 b).2.1 := by decide +kernel
theorem tyX7_ok : ∀ k, k < 8 → parseFieldDescriptor (TX7 k).2.2.1 = some (tyX7 k) := by decide +kernel
abbrev cX7_init : ByteArray := prog_1_method_1_code
def yX7_init : MethodName := ⟨RX7, "<init>", "()V"⟩
abbrev cX7_lengthens : ByteArray := prog_1_method_2_code
def yX7_lengthens : MethodName := ⟨RX7, "lengthens", "(I)I"⟩
abbrev cX7_lays : ByteArray := prog_1_method_3_code
def yX7_lays : MethodName := ⟨RX7, "lays", "(IIII)I"⟩
abbrev cX7_beacon : ByteArray := prog_1_method_4_code
def yX7_beacon : MethodName := ⟨RX7, "beacon", "(II)I"⟩
abbrev cX7_sets : ByteArray := prog_1_method_5_code
def yX7_sets : MethodName := ⟨RX7, "sets", "(II)I"⟩
abbrev cX7_cell : ByteArray := prog_1_method_6_code
def yX7_cell : MethodName := ⟨RX7, "cell", "(II)I"⟩
abbrev cX7_lawful : ByteArray := prog_1_method_7_code
def yX7_lawful : MethodName := ⟨RX7, "lawful", "(I)I"⟩
abbrev cX7_permitted : ByteArray := prog_1_method_8_code
def yX7_permitted : MethodName := ⟨RX7, "permitted", "(I)I"⟩
abbrev cX7_bound : ByteArray := prog_1_method_9_code
def yX7_bound : MethodName := ⟨RX7, "bound", "(I)I"⟩
abbrev cX7_stands : ByteArray := prog_1_method_10_code
def yX7_stands : MethodName := ⟨RX7, "stands", "(II)I"⟩
abbrev cX7_speed : ByteArray := prog_1_method_11_code
def yX7_speed : MethodName := ⟨RX7, "speed", "(II)I"⟩
abbrev cX7_many : ByteArray := prog_1_method_12_code
def yX7_many : MethodName := ⟨RX7, "many", "(I)I"⟩
abbrev cX7_places : ByteArray := prog_1_method_13_code
def yX7_places : MethodName := ⟨RX7, "places", "(II)I"⟩
abbrev cX7_steps : ByteArray := prog_1_method_14_code
def yX7_steps : MethodName := ⟨RX7, "steps", "(I)I"⟩
abbrev cX7_drives : ByteArray := prog_1_method_15_code
def yX7_drives : MethodName := ⟨RX7, "drives", "(I)I"⟩
abbrev cX7_frees : ByteArray := prog_1_method_16_code
def yX7_frees : MethodName := ⟨RX7, "frees", "()I"⟩
abbrev cX7_train : ByteArray := prog_1_method_17_code
def yX7_train : MethodName := ⟨RX7, "train", "(I)I"⟩
abbrev cX7_type : ByteArray := prog_1_method_18_code
def yX7_type : MethodName := ⟨RX7, "type", "(I)I"⟩
abbrev cX7_clear : ByteArray := prog_1_method_19_code
def yX7_clear : MethodName := ⟨RX7, "clear", "()I"⟩
abbrev cX7_does : ByteArray := prog_1_method_20_code
def yX7_does : MethodName := ⟨RX7, "does", "()I"⟩
abbrev cX7_why : ByteArray := prog_1_method_21_code
def yX7_why : MethodName := ⟨RX7, "why", "(I)I"⟩
abbrev cX7_back : ByteArray := prog_1_method_22_code
def yX7_back : MethodName := ⟨RX7, "back", "()I"⟩
abbrev cX7_told : ByteArray := prog_1_method_23_code
def yX7_told : MethodName := ⟨RX7, "told", "(I)I"⟩
abbrev cX7_digest : ByteArray := prog_1_method_24_code
def yX7_digest : MethodName := ⟨RX7, "digest", "()J"⟩
abbrev cX7_counted : ByteArray := prog_1_method_25_code
def yX7_counted : MethodName := ⟨RX7, "counted", "(I)I"⟩
abbrev cX7_settled : ByteArray := prog_1_method_26_code
def yX7_settled : MethodName := ⟨RX7, "settled", "(I)I"⟩
abbrev cX7_redrawn : ByteArray := prog_1_method_27_code
def yX7_redrawn : MethodName := ⟨RX7, "redrawn", "(I)I"⟩
abbrev cX7_blames : ByteArray := prog_1_method_28_code
def yX7_blames : MethodName := ⟨RX7, "blames", "(II)V"⟩
abbrev cX7_obeys : ByteArray := prog_1_method_29_code
def yX7_obeys : MethodName := ⟨RX7, "obeys", "(I)I"⟩
abbrev cX7_toldValue : ByteArray := prog_1_method_30_code
def yX7_toldValue : MethodName := ⟨RX7, "toldValue", "(I)I"⟩
abbrev cX7_within : ByteArray := prog_1_method_31_code
def yX7_within : MethodName := ⟨RX7, "within", "(III)Z"⟩
abbrev cX7_root : ByteArray := prog_1_method_32_code
def yX7_root : MethodName := ⟨RX7, "root", "(I)I"⟩
def RX8 : String := "SpeedWardenModel"
def TX8 : u_T := fun k => match k with
  | 0 => ("SpeedWardenModel", "now", "[I", true)
  | 1 => ("SpeedWardenModel", "past", "[I", true)
  | 2 => ("SpeedWardenModel", "states", "I", false)
  | 3 => ("SpeedWardenModel", "bads", "I", false)
  | 4 => ("SpeedWardenModel", "noes", "I", false)
  | 5 => ("SpeedWardenModel", "fulls", "I", false)
  | 6 => ("SpeedWardenModel", "cause", "I", false)
  | 7 => ("SpeedWardenModel", "where", "I", false)
  | 8 => ("SpeedWardenModel", "squares", "[I", true)
  | 9 => ("SpeedWardenModel", "text", "[I", true)
  | 10 => ("SpeedWardenModel", "size", "I", false)
  | 11 => ("SpeedWardenModel", "at", "I", false)
  | 12 => ("SpeedWardenModel", "fault", "I", false)
  | 13 => ("SpeedWardenModel", "isWord", "Z", false)
  | 14 => ("SpeedWardenModel", "orders", "I", false)
  | 15 => ("SpeedWardenModel", "words", "[I", true)
  | _ => ("SpeedWardenModel", "tells", "[I", true)
def tyX8 : Nat → FieldType := fun k => match k with
  | 0 => .array .int
  | 1 => .array .int
  | 2 => .int
  | 3 => .int
  | 4 => .int
  | 5 => .int
  | 6 => .int
  | 7 => .int
  | 8 => .array .int
  | 9 => .array .int
  | 10 => .int
  | 11 => .int
  | 12 => .int
  | 13 => .boolean
  | 14 => .int
  | 15 => .array .int
  | _ => .array .int
abbrev wsX80 : List Cond := u_ws RX8 TX8 17
theorem nmX8 : ∀ a, a < 17 → ∀ b, b < 17 → a ≠ b → (TX8 a).2.1 ≠ (TX8 b).2.1 := by decide +kernel
theorem tyX8_ok : ∀ k, k < 17 → parseFieldDescriptor (TX8 k).2.2.1 = some (tyX8 k) := by decide +kernel
abbrev cX8_init : ByteArray := prog_10_method_1_code
def yX8_init : MethodName := ⟨RX8, "<init>", "()V"⟩
abbrev cX8_in : ByteArray := prog_10_method_3_code
def yX8_in : MethodName := ⟨RX8, "in", "(III)Z"⟩
abbrev cX8_bad : ByteArray := prog_10_method_4_code
def yX8_bad : MethodName := ⟨RX8, "bad", "()I"⟩
abbrev cX8_no : ByteArray := prog_10_method_5_code
def yX8_no : MethodName := ⟨RX8, "no", "()I"⟩
abbrev cX8_keepTo : ByteArray := prog_10_method_6_code
def yX8_keepTo : MethodName := ⟨RX8, "keepTo", "(I)V"⟩
abbrev cX8_takeFrom : ByteArray := prog_10_method_7_code
def yX8_takeFrom : MethodName := ⟨RX8, "takeFrom", "(I)V"⟩
abbrev cX8_notes : ByteArray := prog_10_method_8_code
def yX8_notes : MethodName := ⟨RX8, "notes", "()V"⟩
abbrev cX8_isCell : ByteArray := prog_10_method_9_code
def yX8_isCell : MethodName := ⟨RX8, "isCell", "(I)Z"⟩
abbrev cX8_ceiling : ByteArray := prog_10_method_10_code
def yX8_ceiling : MethodName := ⟨RX8, "ceiling", "(I)I"⟩
abbrev cX8_grade : ByteArray := prog_10_method_11_code
def yX8_grade : MethodName := ⟨RX8, "grade", "(I)I"⟩
abbrev cX8_decel : ByteArray := prog_10_method_12_code
def yX8_decel : MethodName := ⟨RX8, "decel", "(I)I"⟩
abbrev cX8_inForce : ByteArray := prog_10_method_13_code
def yX8_inForce : MethodName := ⟨RX8, "inForce", "(I)I"⟩
abbrev cX8_mayLengthen : ByteArray := prog_10_method_14_code
def yX8_mayLengthen : MethodName := ⟨RX8, "mayLengthen", "(I)Z"⟩
abbrev cX8_lengthen : ByteArray := prog_10_method_15_code
def yX8_lengthen : MethodName := ⟨RX8, "lengthen", "(I)I"⟩
abbrev cX8_lengthens : ByteArray := prog_10_method_16_code
def yX8_lengthens : MethodName := ⟨RX8, "lengthens", "(I)I"⟩
abbrev cX8_mayLay : ByteArray := prog_10_method_17_code
def yX8_mayLay : MethodName := ⟨RX8, "mayLay", "(IIII)Z"⟩
abbrev cX8_lay : ByteArray := prog_10_method_18_code
def yX8_lay : MethodName := ⟨RX8, "lay", "(IIII)I"⟩
abbrev cX8_lays : ByteArray := prog_10_method_19_code
def yX8_lays : MethodName := ⟨RX8, "lays", "(IIII)I"⟩
abbrev cX8_signal : ByteArray := prog_10_method_20_code
def yX8_signal : MethodName := ⟨RX8, "signal", "(II)I"⟩
abbrev cX8_beacon : ByteArray := prog_10_method_21_code
def yX8_beacon : MethodName := ⟨RX8, "beacon", "(II)I"⟩
abbrev cX8_maySet : ByteArray := prog_10_method_22_code
def yX8_maySet : MethodName := ⟨RX8, "maySet", "(II)Z"⟩
abbrev cX8_set : ByteArray := prog_10_method_23_code
def yX8_set : MethodName := ⟨RX8, "set", "(II)I"⟩
abbrev cX8_sets : ByteArray := prog_10_method_24_code
def yX8_sets : MethodName := ⟨RX8, "sets", "(II)I"⟩
abbrev cX8_tellCell : ByteArray := prog_10_method_25_code
def yX8_tellCell : MethodName := ⟨RX8, "tellCell", "(II)I"⟩
abbrev cX8_cell : ByteArray := prog_10_method_26_code
def yX8_cell : MethodName := ⟨RX8, "cell", "(II)I"⟩
abbrev cX8_lawfuls : ByteArray := prog_10_method_27_code
def yX8_lawfuls : MethodName := ⟨RX8, "lawfuls", "()V"⟩
abbrev cX8_root : ByteArray := prog_10_method_28_code
def yX8_root : MethodName := ⟨RX8, "root", "(I)I"⟩
abbrev cX8_lawful : ByteArray := prog_10_method_29_code
def yX8_lawful : MethodName := ⟨RX8, "lawful", "(I)I"⟩
abbrev cX8_permitted : ByteArray := prog_10_method_30_code
def yX8_permitted : MethodName := ⟨RX8, "permitted", "(I)I"⟩
abbrev cX8_bound : ByteArray := prog_10_method_31_code
def yX8_bound : MethodName := ⟨RX8, "bound", "(I)I"⟩
abbrev cX8_standing : ByteArray := prog_10_method_32_code
def yX8_standing : MethodName := ⟨RX8, "standing", "(II)I"⟩
abbrev cX8_stands : ByteArray := prog_10_method_33_code
def yX8_stands : MethodName := ⟨RX8, "stands", "(II)I"⟩
abbrev cX8_speed : ByteArray := prog_10_method_34_code
def yX8_speed : MethodName := ⟨RX8, "speed", "(II)I"⟩
abbrev cX8_many : ByteArray := prog_10_method_35_code
def yX8_many : MethodName := ⟨RX8, "many", "(I)I"⟩
abbrev cX8_cellAt : ByteArray := prog_10_method_36_code
def yX8_cellAt : MethodName := ⟨RX8, "cellAt", "(I)I"⟩
abbrev cX8_first : ByteArray := prog_10_method_37_code
def yX8_first : MethodName := ⟨RX8, "first", "()I"⟩
abbrev cX8_last : ByteArray := prog_10_method_38_code
def yX8_last : MethodName := ⟨RX8, "last", "()I"⟩
abbrev cX8_leastOf : ByteArray := prog_10_method_39_code
def yX8_leastOf : MethodName := ⟨RX8, "leastOf", "(II)I"⟩
abbrev cX8_sees : ByteArray := prog_10_method_40_code
def yX8_sees : MethodName := ⟨RX8, "sees", "()I"⟩
abbrev cX8_supervises : ByteArray := prog_10_method_41_code
def yX8_supervises : MethodName := ⟨RX8, "supervises", "()V"⟩
abbrev cX8_gainOf : ByteArray := prog_10_method_42_code
def yX8_gainOf : MethodName := ⟨RX8, "gainOf", "(II)I"⟩
abbrev cX8_goesOn : ByteArray := prog_10_method_43_code
def yX8_goesOn : MethodName := ⟨RX8, "goesOn", "(I)Z"⟩
abbrev cX8_handle : ByteArray := prog_10_method_44_code
def yX8_handle : MethodName := ⟨RX8, "handle", "()I"⟩
abbrev cX8_places : ByteArray := prog_10_method_45_code
def yX8_places : MethodName := ⟨RX8, "places", "(II)I"⟩
abbrev cX8_steps : ByteArray := prog_10_method_46_code
def yX8_steps : MethodName := ⟨RX8, "steps", "(I)I"⟩
abbrev cX8_drives : ByteArray := prog_10_method_47_code
def yX8_drives : MethodName := ⟨RX8, "drives", "(I)I"⟩
abbrev cX8_frees : ByteArray := prog_10_method_48_code
def yX8_frees : MethodName := ⟨RX8, "frees", "()I"⟩
abbrev cX8_tellTrain : ByteArray := prog_10_method_49_code
def yX8_tellTrain : MethodName := ⟨RX8, "tellTrain", "(I)I"⟩
abbrev cX8_train : ByteArray := prog_10_method_50_code
def yX8_train : MethodName := ⟨RX8, "train", "(I)I"⟩
abbrev cX8_type : ByteArray := prog_10_method_51_code
def yX8_type : MethodName := ⟨RX8, "type", "(I)I"⟩
abbrev cX8_clear : ByteArray := prog_10_method_52_code
def yX8_clear : MethodName := ⟨RX8, "clear", "()I"⟩
abbrev cX8_here : ByteArray := prog_10_method_53_code
def yX8_here : MethodName := ⟨RX8, "here", "()I"⟩
abbrev cX8_skips : ByteArray := prog_10_method_54_code
def yX8_skips : MethodName := ⟨RX8, "skips", "()V"⟩
abbrev cX8_isFigure : ByteArray := prog_10_method_55_code
def yX8_isFigure : MethodName := ⟨RX8, "isFigure", "()Z"⟩
abbrev cX8_spells : ByteArray := prog_10_method_56_code
def yX8_spells : MethodName := ⟨RX8, "spells", "(IIIII)Z"⟩
abbrev cX8_wordFrom : ByteArray := prog_10_method_57_code
def yX8_wordFrom : MethodName := ⟨RX8, "wordFrom", "(I)I"⟩
abbrev cX8_stopsHere : ByteArray := prog_10_method_58_code
def yX8_stopsHere : MethodName := ⟨RX8, "stopsHere", "()Z"⟩
abbrev cX8_number : ByteArray := prog_10_method_59_code
def yX8_number : MethodName := ⟨RX8, "number", "(ZI)Z"⟩
abbrev cX8_order : ByteArray := prog_10_method_60_code
def yX8_order : MethodName := ⟨RX8, "order", "()Z"⟩
abbrev cX8_reads : ByteArray := prog_10_method_61_code
def yX8_reads : MethodName := ⟨RX8, "reads", "()Z"⟩
abbrev cX8_isDone : ByteArray := prog_10_method_62_code
def yX8_isDone : MethodName := ⟨RX8, "isDone", "(I)Z"⟩
abbrev cX8_does : ByteArray := prog_10_method_63_code
def yX8_does : MethodName := ⟨RX8, "does", "()I"⟩
abbrev cX8_leaves : ByteArray := prog_10_method_64_code
def yX8_leaves : MethodName := ⟨RX8, "leaves", "()V"⟩
abbrev cX8_tellWhy : ByteArray := prog_10_method_65_code
def yX8_tellWhy : MethodName := ⟨RX8, "tellWhy", "(I)I"⟩
abbrev cX8_why : ByteArray := prog_10_method_66_code
def yX8_why : MethodName := ⟨RX8, "why", "(I)I"⟩
abbrev cX8_back : ByteArray := prog_10_method_67_code
def yX8_back : MethodName := ⟨RX8, "back", "()I"⟩
abbrev cX8_tell : ByteArray := prog_10_method_68_code
def yX8_tell : MethodName := ⟨RX8, "tell", "(I)I"⟩
abbrev cX8_told : ByteArray := prog_10_method_69_code
def yX8_told : MethodName := ⟨RX8, "told", "(I)I"⟩
abbrev cX8_more : ByteArray := prog_10_method_70_code
def yX8_more : MethodName := ⟨RX8, "more", "(JI)J"⟩
abbrev cX8_digest : ByteArray := prog_10_method_71_code
def yX8_digest : MethodName := ⟨RX8, "digest", "()J"⟩
def RJ9 : String := "java/lang/Math"
abbrev cJ9_max_7cf53 : ByteArray := prog_11_method_65_code
def yJ9_max_7cf53 : MethodName := ⟨RJ9, "max", "(II)I"⟩
abbrev cJ9_min_7cf53 : ByteArray := prog_11_method_69_code
def yJ9_min_7cf53 : MethodName := ⟨RJ9, "min", "(II)I"⟩
def RJ0 : String := "java/lang/String"
abbrev cJ0_length_8abf5 : ByteArray := prog_12_method_54_code
def yJ0_length_8abf5 : MethodName := ⟨RJ0, "length", "()I"⟩
abbrev cJ0_charAt_5068e : ByteArray := prog_12_method_56_code
def yJ0_charAt_5068e : MethodName := ⟨RJ0, "charAt", "(I)C"⟩
abbrev cJ0_coder_7d493 : ByteArray := prog_12_method_152_code
def yJ0_coder_7d493 : MethodName := ⟨RJ0, "coder", "()B"⟩
abbrev cJ0_isLatin1_aae02 : ByteArray := prog_12_method_154_code
def yJ0_isLatin1_aae02 : MethodName := ⟨RJ0, "isLatin1", "()Z"⟩
abbrev cJ0_checkIndex_df160 : ByteArray := prog_12_method_155_code
def yJ0_checkIndex_df160 : MethodName := ⟨RJ0, "checkIndex", "(II)V"⟩
def RJ1 : String := "java/lang/StringLatin1"
abbrev cJ1_charAt_3b067 : ByteArray := prog_13_method_2_code
def yJ1_charAt_3b067 : MethodName := ⟨RJ1, "charAt", "([BI)C"⟩
def RJ2 : String := "java/lang/StringUTF16"
abbrev cJ2_getChar_3b067 : ByteArray := prog_14_method_5_code
def yJ2_getChar_3b067 : MethodName := ⟨RJ2, "getChar", "([BI)C"⟩
abbrev cJ2_length_9d52b : ByteArray := prog_14_method_6_code
def yJ2_length_9d52b : MethodName := ⟨RJ2, "length", "([B)I"⟩
abbrev cJ2_charAt_3b067 : ByteArray := prog_14_method_83_code
def yJ2_charAt_3b067 : MethodName := ⟨RJ2, "charAt", "([BI)C"⟩
abbrev cJ2_checkIndex_2214a : ByteArray := prog_14_method_91_code
def yJ2_checkIndex_2214a : MethodName := ⟨RJ2, "checkIndex", "(I[B)V"⟩
def RJ10 : String := "java/lang/System"
def RJ3 : String := "jdk/internal/util/Preconditions"
abbrev cJ3_checkIndex_8e157 : ByteArray := prog_16_method_11_code
def yJ3_checkIndex_8e157 : MethodName := ⟨RJ3, "checkIndex", "(IILjava/util/function/BiFunction;)I"⟩
def RL : String := "SpeedWardenLaw"
abbrev cL_law : ByteArray := code
def yL_law : MethodName := ⟨RL, "law", "([I)Z"⟩
abbrev vwCl : List vw_C := [(RX0, TX0, 2), (RX1, TX1, 3), (RX2, TX2, 4), (RX3, TX3, 8), (RX4, TX4, 2), (RX5, TX5, 5), (RX6, TX6, 8), (RX7, TX7, 8), (RX8, TX8, 17)]
theorem goodIn_sub {big ws : List Cond} (hm : ∀ w ∈ ws, w ∈ big) (h : ws.all goodWord = true) : GoodIn big ws := fun w hw => ⟨hm w hw, good_of_word (List.all_eq_true.mp h w hw)⟩
end
section
theorem dX0_init_0 : decode cX0_init 0 = .ok (.aload_n 0, 1) := by decide +kernel
theorem dX0_init_1 : decode cX0_init 1 = .ok (.invokespecial 3, 3) := by decide +kernel
theorem dX0_init_4 : decode cX0_init 4 = .ok (.aload_n 0, 1) := by decide +kernel
theorem dX0_init_5 : decode cX0_init 5 = .ok (.sipush 200, 3) := by decide +kernel
theorem dX0_init_8 : decode cX0_init 8 = .ok (.newarray .int, 2) := by decide +kernel
theorem dX0_init_10 : decode cX0_init 10 = .ok (.putfield 11, 3) := by decide +kernel
theorem dX0_init_13 : decode cX0_init 13 = .ok (.aload_n 0, 1) := by decide +kernel
theorem dX0_init_14 : decode cX0_init 14 = .ok (.sipush 200, 3) := by decide +kernel
theorem dX0_init_17 : decode cX0_init 17 = .ok (.newarray .int, 2) := by decide +kernel
theorem dX0_init_19 : decode cX0_init 19 = .ok (.putfield 17, 3) := by decide +kernel
theorem dX0_init_22 : decode cX0_init 22 = .ok (.return_, 1) := by decide +kernel
theorem dX0_draws_0 : decode cX0_draws 0 = .ok (.aload_n 0, 1) := by decide +kernel
theorem dX0_draws_1 : decode cX0_draws 1 = .ok (.aload_n 1, 1) := by decide +kernel
theorem dX0_draws_2 : decode cX0_draws 2 = .ok (.invokevirtual 20, 3) := by decide +kernel
theorem dX0_draws_5 : decode cX0_draws 5 = .ok (.iconst 0, 1) := by decide +kernel
theorem dX0_draws_6 : decode cX0_draws 6 = .ok (.istore_n 2, 1) := by decide +kernel
theorem dX0_draws_7 : decode cX0_draws 7 = .ok (.aload_n 1, 1) := by decide +kernel
theorem dX0_draws_8 : decode cX0_draws 8 = .ok (.getfield 24, 3) := by decide +kernel
theorem dX0_draws_11 : decode cX0_draws 11 = .ok (.iconst 1, 1) := by decide +kernel
theorem dX0_draws_12 : decode cX0_draws 12 = .ok (.isub, 1) := by decide +kernel
theorem dX0_draws_13 : decode cX0_draws 13 = .ok (.istore_n 3, 1) := by decide +kernel
theorem dX0_draws_14 : decode cX0_draws 14 = .ok (.iload_n 3, 1) := by decide +kernel
theorem dX0_draws_15 : decode cX0_draws 15 = .ok (.ifCond .lt 40, 3) := by decide +kernel
theorem dX0_draws_18 : decode cX0_draws 18 = .ok (.aload_n 0, 1) := by decide +kernel
theorem dX0_draws_19 : decode cX0_draws 19 = .ok (.getfield 11, 3) := by decide +kernel
theorem dX0_draws_22 : decode cX0_draws 22 = .ok (.iload_n 3, 1) := by decide +kernel
theorem dX0_draws_23 : decode cX0_draws 23 = .ok (.iaload, 1) := by decide +kernel
theorem dX0_draws_24 : decode cX0_draws 24 = .ok (.aload_n 0, 1) := by decide +kernel
theorem dX0_draws_25 : decode cX0_draws 25 = .ok (.getfield 11, 3) := by decide +kernel
theorem dX0_draws_28 : decode cX0_draws 28 = .ok (.iload_n 3, 1) := by decide +kernel
theorem dX0_draws_29 : decode cX0_draws 29 = .ok (.iaload, 1) := by decide +kernel
theorem dX0_draws_30 : decode cX0_draws 30 = .ok (.imul, 1) := by decide +kernel
theorem dX0_draws_31 : decode cX0_draws 31 = .ok (.iload_n 2, 1) := by decide +kernel
theorem dX0_draws_32 : decode cX0_draws 32 = .ok (.aload_n 1, 1) := by decide +kernel
theorem dX0_draws_33 : decode cX0_draws 33 = .ok (.iload_n 3, 1) := by decide +kernel
theorem dX0_draws_34 : decode cX0_draws 34 = .ok (.invokevirtual 28, 3) := by decide +kernel
theorem dX0_draws_37 : decode cX0_draws 37 = .ok (.iadd, 1) := by decide +kernel
theorem dX0_draws_38 : decode cX0_draws 38 = .ok (.invokestatic 32, 3) := by decide +kernel
theorem dX0_draws_41 : decode cX0_draws 41 = .ok (.istore_n 2, 1) := by decide +kernel
theorem dX0_draws_42 : decode cX0_draws 42 = .ok (.aload_n 0, 1) := by decide +kernel
theorem dX0_draws_43 : decode cX0_draws 43 = .ok (.getfield 17, 3) := by decide +kernel
theorem dX0_draws_46 : decode cX0_draws 46 = .ok (.iload_n 3, 1) := by decide +kernel
theorem dX0_draws_47 : decode cX0_draws 47 = .ok (.iload_n 2, 1) := by decide +kernel
theorem dX0_draws_48 : decode cX0_draws 48 = .ok (.iastore, 1) := by decide +kernel
theorem dX0_draws_49 : decode cX0_draws 49 = .ok (.iinc 3 (-1), 3) := by decide +kernel
theorem dX0_draws_52 : decode cX0_draws 52 = .ok (.goto (-38), 3) := by decide +kernel
theorem dX0_draws_55 : decode cX0_draws 55 = .ok (.return_, 1) := by decide +kernel
theorem dX0_drawsCeilings_0 : decode cX0_drawsCeilings 0 = .ok (.iconst 0, 1) := by decide +kernel
theorem dX0_drawsCeilings_1 : decode cX0_drawsCeilings 1 = .ok (.istore_n 2, 1) := by decide +kernel
theorem dX0_drawsCeilings_2 : decode cX0_drawsCeilings 2 = .ok (.iconst 0, 1) := by decide +kernel
theorem dX0_drawsCeilings_3 : decode cX0_drawsCeilings 3 = .ok (.istore_n 3, 1) := by decide +kernel
theorem dX0_drawsCeilings_4 : decode cX0_drawsCeilings 4 = .ok (.iload_n 3, 1) := by decide +kernel
theorem dX0_drawsCeilings_5 : decode cX0_drawsCeilings 5 = .ok (.aload_n 1, 1) := by decide +kernel
theorem dX0_drawsCeilings_6 : decode cX0_drawsCeilings 6 = .ok (.getfield 24, 3) := by decide +kernel
theorem dX0_drawsCeilings_9 : decode cX0_drawsCeilings 9 = .ok (.if_icmp .ge 74, 3) := by decide +kernel
theorem dX0_drawsCeilings_12 : decode cX0_drawsCeilings 12 = .ok (.iconst 0, 1) := by decide +kernel
theorem dX0_drawsCeilings_13 : decode cX0_drawsCeilings 13 = .ok (.iload_n 3, 1) := by decide +kernel
theorem dX0_drawsCeilings_14 : decode cX0_drawsCeilings 14 = .ok (.aload_n 1, 1) := by decide +kernel
theorem dX0_drawsCeilings_15 : decode cX0_drawsCeilings 15 = .ok (.getfield 38, 3) := by decide +kernel
theorem dX0_drawsCeilings_18 : decode cX0_drawsCeilings 18 = .ok (.iconst 2, 1) := by decide +kernel
theorem dX0_drawsCeilings_19 : decode cX0_drawsCeilings 19 = .ok (.iaload, 1) := by decide +kernel
theorem dX0_drawsCeilings_20 : decode cX0_drawsCeilings 20 = .ok (.isub, 1) := by decide +kernel
theorem dX0_drawsCeilings_21 : decode cX0_drawsCeilings 21 = .ok (.iconst 1, 1) := by decide +kernel
theorem dX0_drawsCeilings_22 : decode cX0_drawsCeilings 22 = .ok (.iadd, 1) := by decide +kernel
theorem dX0_drawsCeilings_23 : decode cX0_drawsCeilings 23 = .ok (.invokestatic 41, 3) := by decide +kernel
theorem dX0_drawsCeilings_26 : decode cX0_drawsCeilings 26 = .ok (.istore 4, 2) := by decide +kernel
theorem dX0_drawsCeilings_28 : decode cX0_drawsCeilings 28 = .ok (.iload_n 2, 1) := by decide +kernel
theorem dX0_drawsCeilings_29 : decode cX0_drawsCeilings 29 = .ok (.iload 4, 2) := by decide +kernel
theorem dX0_drawsCeilings_31 : decode cX0_drawsCeilings 31 = .ok (.if_icmp .ge 17, 3) := by decide +kernel
theorem dX0_drawsCeilings_34 : decode cX0_drawsCeilings 34 = .ok (.aload_n 1, 1) := by decide +kernel
theorem dX0_drawsCeilings_35 : decode cX0_drawsCeilings 35 = .ok (.getfield 44, 3) := by decide +kernel
theorem dX0_drawsCeilings_38 : decode cX0_drawsCeilings 38 = .ok (.iload 4, 2) := by decide +kernel
theorem dX0_drawsCeilings_40 : decode cX0_drawsCeilings 40 = .ok (.iload_n 3, 1) := by decide +kernel
theorem dX0_drawsCeilings_41 : decode cX0_drawsCeilings 41 = .ok (.invokestatic 47, 3) := by decide +kernel
theorem dX0_drawsCeilings_44 : decode cX0_drawsCeilings 44 = .ok (.istore_n 2, 1) := by decide +kernel
theorem dX0_drawsCeilings_45 : decode cX0_drawsCeilings 45 = .ok (.goto 20, 3) := by decide +kernel
theorem dX0_drawsCeilings_48 : decode cX0_drawsCeilings 48 = .ok (.aload_n 1, 1) := by decide +kernel
theorem dX0_drawsCeilings_49 : decode cX0_drawsCeilings 49 = .ok (.getfield 44, 3) := by decide +kernel
theorem dX0_drawsCeilings_52 : decode cX0_drawsCeilings 52 = .ok (.iload_n 3, 1) := by decide +kernel
theorem dX0_drawsCeilings_53 : decode cX0_drawsCeilings 53 = .ok (.iaload, 1) := by decide +kernel
theorem dX0_drawsCeilings_54 : decode cX0_drawsCeilings 54 = .ok (.aload_n 1, 1) := by decide +kernel
theorem dX0_drawsCeilings_55 : decode cX0_drawsCeilings 55 = .ok (.getfield 44, 3) := by decide +kernel
theorem dX0_drawsCeilings_58 : decode cX0_drawsCeilings 58 = .ok (.iload_n 2, 1) := by decide +kernel
theorem dX0_drawsCeilings_59 : decode cX0_drawsCeilings 59 = .ok (.iaload, 1) := by decide +kernel
theorem dX0_drawsCeilings_60 : decode cX0_drawsCeilings 60 = .ok (.if_icmp .gt 5, 3) := by decide +kernel
theorem dX0_drawsCeilings_63 : decode cX0_drawsCeilings 63 = .ok (.iload_n 3, 1) := by decide +kernel
theorem dX0_drawsCeilings_64 : decode cX0_drawsCeilings 64 = .ok (.istore_n 2, 1) := by decide +kernel
theorem dX0_drawsCeilings_65 : decode cX0_drawsCeilings 65 = .ok (.aload_n 0, 1) := by decide +kernel
theorem dX0_drawsCeilings_66 : decode cX0_drawsCeilings 66 = .ok (.getfield 11, 3) := by decide +kernel
theorem dX0_drawsCeilings_69 : decode cX0_drawsCeilings 69 = .ok (.iload_n 3, 1) := by decide +kernel
theorem dX0_drawsCeilings_70 : decode cX0_drawsCeilings 70 = .ok (.aload_n 1, 1) := by decide +kernel
theorem dX0_drawsCeilings_71 : decode cX0_drawsCeilings 71 = .ok (.getfield 44, 3) := by decide +kernel
theorem dX0_drawsCeilings_74 : decode cX0_drawsCeilings 74 = .ok (.iload_n 2, 1) := by decide +kernel
theorem dX0_drawsCeilings_75 : decode cX0_drawsCeilings 75 = .ok (.iaload, 1) := by decide +kernel
theorem dX0_drawsCeilings_76 : decode cX0_drawsCeilings 76 = .ok (.iastore, 1) := by decide +kernel
theorem dX0_drawsCeilings_77 : decode cX0_drawsCeilings 77 = .ok (.iinc 3 1, 3) := by decide +kernel
theorem dX0_drawsCeilings_80 : decode cX0_drawsCeilings 80 = .ok (.goto (-76), 3) := by decide +kernel
theorem dX0_drawsCeilings_83 : decode cX0_drawsCeilings 83 = .ok (.return_, 1) := by decide +kernel
theorem dX0_leastCeiling_0 : decode cX0_leastCeiling 0 = .ok (.iload_n 1, 1) := by decide +kernel
theorem dX0_leastCeiling_1 : decode cX0_leastCeiling 1 = .ok (.istore_n 3, 1) := by decide +kernel
theorem dX0_leastCeiling_2 : decode cX0_leastCeiling 2 = .ok (.iload_n 1, 1) := by decide +kernel
theorem dX0_leastCeiling_3 : decode cX0_leastCeiling 3 = .ok (.iconst 1, 1) := by decide +kernel
theorem dX0_leastCeiling_4 : decode cX0_leastCeiling 4 = .ok (.iadd, 1) := by decide +kernel
theorem dX0_leastCeiling_5 : decode cX0_leastCeiling 5 = .ok (.istore 4, 2) := by decide +kernel
theorem dX0_leastCeiling_7 : decode cX0_leastCeiling 7 = .ok (.iload 4, 2) := by decide +kernel
theorem dX0_leastCeiling_9 : decode cX0_leastCeiling 9 = .ok (.iload_n 2, 1) := by decide +kernel
theorem dX0_leastCeiling_10 : decode cX0_leastCeiling 10 = .ok (.if_icmp .gt 22, 3) := by decide +kernel
theorem dX0_leastCeiling_13 : decode cX0_leastCeiling 13 = .ok (.aload_n 0, 1) := by decide +kernel
theorem dX0_leastCeiling_14 : decode cX0_leastCeiling 14 = .ok (.iload 4, 2) := by decide +kernel
theorem dX0_leastCeiling_16 : decode cX0_leastCeiling 16 = .ok (.iaload, 1) := by decide +kernel
theorem dX0_leastCeiling_17 : decode cX0_leastCeiling 17 = .ok (.aload_n 0, 1) := by decide +kernel
theorem dX0_leastCeiling_18 : decode cX0_leastCeiling 18 = .ok (.iload_n 3, 1) := by decide +kernel
theorem dX0_leastCeiling_19 : decode cX0_leastCeiling 19 = .ok (.iaload, 1) := by decide +kernel
theorem dX0_leastCeiling_20 : decode cX0_leastCeiling 20 = .ok (.if_icmp .gt 6, 3) := by decide +kernel
theorem dX0_leastCeiling_23 : decode cX0_leastCeiling 23 = .ok (.iload 4, 2) := by decide +kernel
theorem dX0_leastCeiling_25 : decode cX0_leastCeiling 25 = .ok (.istore_n 3, 1) := by decide +kernel
theorem dX0_leastCeiling_26 : decode cX0_leastCeiling 26 = .ok (.iinc 4 1, 3) := by decide +kernel
theorem dX0_leastCeiling_29 : decode cX0_leastCeiling 29 = .ok (.goto (-22), 3) := by decide +kernel
theorem dX0_leastCeiling_32 : decode cX0_leastCeiling 32 = .ok (.iload_n 3, 1) := by decide +kernel
theorem dX0_leastCeiling_33 : decode cX0_leastCeiling 33 = .ok (.ireturn, 1) := by decide +kernel
theorem dX0_boundOf_0 : decode cX0_boundOf 0 = .ok (.iconst 0, 1) := by decide +kernel
theorem dX0_boundOf_1 : decode cX0_boundOf 1 = .ok (.istore_n 3, 1) := by decide +kernel
theorem dX0_boundOf_2 : decode cX0_boundOf 2 = .ok (.iload_n 2, 1) := by decide +kernel
theorem dX0_boundOf_3 : decode cX0_boundOf 3 = .ok (.istore 4, 2) := by decide +kernel
theorem dX0_boundOf_5 : decode cX0_boundOf 5 = .ok (.iload 4, 2) := by decide +kernel
theorem dX0_boundOf_7 : decode cX0_boundOf 7 = .ok (.aload_n 1, 1) := by decide +kernel
theorem dX0_boundOf_8 : decode cX0_boundOf 8 = .ok (.getfield 24, 3) := by decide +kernel
theorem dX0_boundOf_11 : decode cX0_boundOf 11 = .ok (.if_icmp .ge 47, 3) := by decide +kernel
theorem dX0_boundOf_14 : decode cX0_boundOf 14 = .ok (.aload_n 0, 1) := by decide +kernel
theorem dX0_boundOf_15 : decode cX0_boundOf 15 = .ok (.getfield 17, 3) := by decide +kernel
theorem dX0_boundOf_18 : decode cX0_boundOf 18 = .ok (.iload_n 2, 1) := by decide +kernel
theorem dX0_boundOf_19 : decode cX0_boundOf 19 = .ok (.iaload, 1) := by decide +kernel
theorem dX0_boundOf_20 : decode cX0_boundOf 20 = .ok (.aload_n 0, 1) := by decide +kernel
theorem dX0_boundOf_21 : decode cX0_boundOf 21 = .ok (.getfield 11, 3) := by decide +kernel
theorem dX0_boundOf_24 : decode cX0_boundOf 24 = .ok (.iload 4, 2) := by decide +kernel
theorem dX0_boundOf_26 : decode cX0_boundOf 26 = .ok (.iaload, 1) := by decide +kernel
theorem dX0_boundOf_27 : decode cX0_boundOf 27 = .ok (.aload_n 0, 1) := by decide +kernel
theorem dX0_boundOf_28 : decode cX0_boundOf 28 = .ok (.getfield 11, 3) := by decide +kernel
theorem dX0_boundOf_31 : decode cX0_boundOf 31 = .ok (.iload 4, 2) := by decide +kernel
theorem dX0_boundOf_33 : decode cX0_boundOf 33 = .ok (.iaload, 1) := by decide +kernel
theorem dX0_boundOf_34 : decode cX0_boundOf 34 = .ok (.imul, 1) := by decide +kernel
theorem dX0_boundOf_35 : decode cX0_boundOf 35 = .ok (.iload_n 3, 1) := by decide +kernel
theorem dX0_boundOf_36 : decode cX0_boundOf 36 = .ok (.iadd, 1) := by decide +kernel
theorem dX0_boundOf_37 : decode cX0_boundOf 37 = .ok (.if_icmp .ne 6, 3) := by decide +kernel
theorem dX0_boundOf_40 : decode cX0_boundOf 40 = .ok (.iload 4, 2) := by decide +kernel
theorem dX0_boundOf_42 : decode cX0_boundOf 42 = .ok (.ireturn, 1) := by decide +kernel
theorem dX0_boundOf_43 : decode cX0_boundOf 43 = .ok (.iload_n 3, 1) := by decide +kernel
theorem dX0_boundOf_44 : decode cX0_boundOf 44 = .ok (.aload_n 1, 1) := by decide +kernel
theorem dX0_boundOf_45 : decode cX0_boundOf 45 = .ok (.iload 4, 2) := by decide +kernel
theorem dX0_boundOf_47 : decode cX0_boundOf 47 = .ok (.invokevirtual 28, 3) := by decide +kernel
theorem dX0_boundOf_50 : decode cX0_boundOf 50 = .ok (.iadd, 1) := by decide +kernel
theorem dX0_boundOf_51 : decode cX0_boundOf 51 = .ok (.istore_n 3, 1) := by decide +kernel
theorem dX0_boundOf_52 : decode cX0_boundOf 52 = .ok (.iinc 4 1, 3) := by decide +kernel
theorem dX0_boundOf_55 : decode cX0_boundOf 55 = .ok (.goto (-50), 3) := by decide +kernel
theorem dX0_boundOf_58 : decode cX0_boundOf 58 = .ok (.aload_n 1, 1) := by decide +kernel
theorem dX0_boundOf_59 : decode cX0_boundOf 59 = .ok (.getfield 24, 3) := by decide +kernel
theorem dX0_boundOf_62 : decode cX0_boundOf 62 = .ok (.ireturn, 1) := by decide +kernel
theorem dX0_leastSquare_0 : decode cX0_leastSquare 0 = .ok (.aload_n 0, 1) := by decide +kernel
theorem dX0_leastSquare_1 : decode cX0_leastSquare 1 = .ok (.getfield 17, 3) := by decide +kernel
theorem dX0_leastSquare_4 : decode cX0_leastSquare 4 = .ok (.iload_n 1, 1) := by decide +kernel
theorem dX0_leastSquare_5 : decode cX0_leastSquare 5 = .ok (.iaload, 1) := by decide +kernel
theorem dX0_leastSquare_6 : decode cX0_leastSquare 6 = .ok (.istore_n 3, 1) := by decide +kernel
theorem dX0_leastSquare_7 : decode cX0_leastSquare 7 = .ok (.iload_n 1, 1) := by decide +kernel
theorem dX0_leastSquare_8 : decode cX0_leastSquare 8 = .ok (.iconst 1, 1) := by decide +kernel
theorem dX0_leastSquare_9 : decode cX0_leastSquare 9 = .ok (.iadd, 1) := by decide +kernel
theorem dX0_leastSquare_10 : decode cX0_leastSquare 10 = .ok (.istore 4, 2) := by decide +kernel
theorem dX0_leastSquare_12 : decode cX0_leastSquare 12 = .ok (.iload 4, 2) := by decide +kernel
theorem dX0_leastSquare_14 : decode cX0_leastSquare 14 = .ok (.iload_n 2, 1) := by decide +kernel
theorem dX0_leastSquare_15 : decode cX0_leastSquare 15 = .ok (.if_icmp .gt 21, 3) := by decide +kernel
theorem dX0_leastSquare_18 : decode cX0_leastSquare 18 = .ok (.iload_n 3, 1) := by decide +kernel
theorem dX0_leastSquare_19 : decode cX0_leastSquare 19 = .ok (.aload_n 0, 1) := by decide +kernel
theorem dX0_leastSquare_20 : decode cX0_leastSquare 20 = .ok (.getfield 17, 3) := by decide +kernel
theorem dX0_leastSquare_23 : decode cX0_leastSquare 23 = .ok (.iload 4, 2) := by decide +kernel
theorem dX0_leastSquare_25 : decode cX0_leastSquare 25 = .ok (.iaload, 1) := by decide +kernel
theorem dX0_leastSquare_26 : decode cX0_leastSquare 26 = .ok (.invokestatic 32, 3) := by decide +kernel
theorem dX0_leastSquare_29 : decode cX0_leastSquare 29 = .ok (.istore_n 3, 1) := by decide +kernel
theorem dX0_leastSquare_30 : decode cX0_leastSquare 30 = .ok (.iinc 4 1, 3) := by decide +kernel
theorem dX0_leastSquare_33 : decode cX0_leastSquare 33 = .ok (.goto (-21), 3) := by decide +kernel
theorem dX0_leastSquare_36 : decode cX0_leastSquare 36 = .ok (.iload_n 3, 1) := by decide +kernel
theorem dX0_leastSquare_37 : decode cX0_leastSquare 37 = .ok (.ireturn, 1) := by decide +kernel
theorem dX1_init_0 : decode cX1_init 0 = .ok (.aload_n 0, 1) := by decide +kernel
theorem dX1_init_1 : decode cX1_init 1 = .ok (.invokespecial 3, 3) := by decide +kernel
theorem dX1_init_4 : decode cX1_init 4 = .ok (.aload_n 0, 1) := by decide +kernel
theorem dX1_init_5 : decode cX1_init 5 = .ok (.bipush 7, 2) := by decide +kernel
theorem dX1_init_7 : decode cX1_init 7 = .ok (.anewarray 9, 3) := by decide +kernel
theorem dX1_init_10 : decode cX1_init 10 = .ok (.putfield 11, 3) := by decide +kernel
theorem dX1_init_13 : decode cX1_init 13 = .ok (.iconst 0, 1) := by decide +kernel
theorem dX1_init_14 : decode cX1_init 14 = .ok (.istore_n 1, 1) := by decide +kernel
theorem dX1_init_15 : decode cX1_init 15 = .ok (.iload_n 1, 1) := by decide +kernel
theorem dX1_init_16 : decode cX1_init 16 = .ok (.bipush 7, 2) := by decide +kernel
theorem dX1_init_18 : decode cX1_init 18 = .ok (.if_icmp .ge 22, 3) := by decide +kernel
theorem dX1_init_21 : decode cX1_init 21 = .ok (.aload_n 0, 1) := by decide +kernel
theorem dX1_init_22 : decode cX1_init 22 = .ok (.getfield 11, 3) := by decide +kernel
theorem dX1_init_25 : decode cX1_init 25 = .ok (.iload_n 1, 1) := by decide +kernel
theorem dX1_init_26 : decode cX1_init 26 = .ok (.new 9, 3) := by decide +kernel
theorem dX1_init_29 : decode cX1_init 29 = .ok (.dup, 1) := by decide +kernel
theorem dX1_init_30 : decode cX1_init 30 = .ok (.invokespecial 15, 3) := by decide +kernel
theorem dX1_init_33 : decode cX1_init 33 = .ok (.aastore, 1) := by decide +kernel
theorem dX1_init_34 : decode cX1_init 34 = .ok (.iinc 1 1, 3) := by decide +kernel
theorem dX1_init_37 : decode cX1_init 37 = .ok (.goto (-22), 3) := by decide +kernel
theorem dX1_init_40 : decode cX1_init 40 = .ok (.return_, 1) := by decide +kernel
theorem dX1_notes_0 : decode cX1_notes 0 = .ok (.aload_n 0, 1) := by decide +kernel
theorem dX1_notes_1 : decode cX1_notes 1 = .ok (.getfield 11, 3) := by decide +kernel
theorem dX1_notes_4 : decode cX1_notes 4 = .ok (.aload_n 0, 1) := by decide +kernel
theorem dX1_notes_5 : decode cX1_notes 5 = .ok (.getfield 16, 3) := by decide +kernel
theorem dX1_notes_8 : decode cX1_notes 8 = .ok (.aaload, 1) := by decide +kernel
theorem dX1_notes_9 : decode cX1_notes 9 = .ok (.aload_n 1, 1) := by decide +kernel
theorem dX1_notes_10 : decode cX1_notes 10 = .ok (.invokevirtual 20, 3) := by decide +kernel
theorem dX1_notes_13 : decode cX1_notes 13 = .ok (.return_, 1) := by decide +kernel
theorem dX1_noted_0 : decode cX1_noted 0 = .ok (.aload_n 0, 1) := by decide +kernel
theorem dX1_noted_1 : decode cX1_noted 1 = .ok (.getfield 11, 3) := by decide +kernel
theorem dX1_noted_4 : decode cX1_noted 4 = .ok (.aload_n 0, 1) := by decide +kernel
theorem dX1_noted_5 : decode cX1_noted 5 = .ok (.getfield 16, 3) := by decide +kernel
theorem dX1_noted_8 : decode cX1_noted 8 = .ok (.aaload, 1) := by decide +kernel
theorem dX1_noted_9 : decode cX1_noted 9 = .ok (.areturn, 1) := by decide +kernel
theorem dX1_keeps_0 : decode cX1_keeps 0 = .ok (.aload_n 0, 1) := by decide +kernel
theorem dX1_keeps_1 : decode cX1_keeps 1 = .ok (.aload_n 0, 1) := by decide +kernel
theorem dX1_keeps_2 : decode cX1_keeps 2 = .ok (.getfield 16, 3) := by decide +kernel
theorem dX1_keeps_5 : decode cX1_keeps 5 = .ok (.iconst 1, 1) := by decide +kernel
theorem dX1_keeps_6 : decode cX1_keeps 6 = .ok (.iadd, 1) := by decide +kernel
theorem dX1_keeps_7 : decode cX1_keeps 7 = .ok (.bipush 7, 2) := by decide +kernel
theorem dX1_keeps_9 : decode cX1_keeps 9 = .ok (.irem, 1) := by decide +kernel
theorem dX1_keeps_10 : decode cX1_keeps 10 = .ok (.putfield 16, 3) := by decide +kernel
theorem dX1_keeps_13 : decode cX1_keeps 13 = .ok (.aload_n 0, 1) := by decide +kernel
theorem dX1_keeps_14 : decode cX1_keeps 14 = .ok (.bipush 6, 2) := by decide +kernel
theorem dX1_keeps_16 : decode cX1_keeps 16 = .ok (.aload_n 0, 1) := by decide +kernel
theorem dX1_keeps_17 : decode cX1_keeps 17 = .ok (.getfield 24, 3) := by decide +kernel
theorem dX1_keeps_20 : decode cX1_keeps 20 = .ok (.iconst 1, 1) := by decide +kernel
theorem dX1_keeps_21 : decode cX1_keeps 21 = .ok (.iadd, 1) := by decide +kernel
theorem dX1_keeps_22 : decode cX1_keeps 22 = .ok (.invokestatic 27, 3) := by decide +kernel
theorem dX1_keeps_25 : decode cX1_keeps 25 = .ok (.putfield 24, 3) := by decide +kernel
theorem dX1_keeps_28 : decode cX1_keeps 28 = .ok (.return_, 1) := by decide +kernel
theorem dX1_takes_0 : decode cX1_takes 0 = .ok (.aload_n 0, 1) := by decide +kernel
theorem dX1_takes_1 : decode cX1_takes 1 = .ok (.aload_n 0, 1) := by decide +kernel
theorem dX1_takes_2 : decode cX1_takes 2 = .ok (.getfield 16, 3) := by decide +kernel
theorem dX1_takes_5 : decode cX1_takes 5 = .ok (.bipush 7, 2) := by decide +kernel
theorem dX1_takes_7 : decode cX1_takes 7 = .ok (.iadd, 1) := by decide +kernel
theorem dX1_takes_8 : decode cX1_takes 8 = .ok (.iconst 1, 1) := by decide +kernel
theorem dX1_takes_9 : decode cX1_takes 9 = .ok (.isub, 1) := by decide +kernel
theorem dX1_takes_10 : decode cX1_takes 10 = .ok (.bipush 7, 2) := by decide +kernel
theorem dX1_takes_12 : decode cX1_takes 12 = .ok (.irem, 1) := by decide +kernel
theorem dX1_takes_13 : decode cX1_takes 13 = .ok (.putfield 16, 3) := by decide +kernel
theorem dX1_takes_16 : decode cX1_takes 16 = .ok (.aload_n 0, 1) := by decide +kernel
theorem dX1_takes_17 : decode cX1_takes 17 = .ok (.dup, 1) := by decide +kernel
theorem dX1_takes_18 : decode cX1_takes 18 = .ok (.getfield 24, 3) := by decide +kernel
theorem dX1_takes_21 : decode cX1_takes 21 = .ok (.iconst 1, 1) := by decide +kernel
theorem dX1_takes_22 : decode cX1_takes 22 = .ok (.isub, 1) := by decide +kernel
theorem dX1_takes_23 : decode cX1_takes 23 = .ok (.putfield 24, 3) := by decide +kernel
theorem dX1_takes_26 : decode cX1_takes 26 = .ok (.aload_n 0, 1) := by decide +kernel
theorem dX1_takes_27 : decode cX1_takes 27 = .ok (.getfield 11, 3) := by decide +kernel
theorem dX1_takes_30 : decode cX1_takes 30 = .ok (.aload_n 0, 1) := by decide +kernel
theorem dX1_takes_31 : decode cX1_takes 31 = .ok (.getfield 16, 3) := by decide +kernel
theorem dX1_takes_34 : decode cX1_takes 34 = .ok (.aaload, 1) := by decide +kernel
theorem dX1_takes_35 : decode cX1_takes 35 = .ok (.areturn, 1) := by decide +kernel
theorem dX2_init_0 : decode cX2_init 0 = .ok (.aload_n 0, 1) := by decide +kernel
theorem dX2_init_1 : decode cX2_init 1 = .ok (.invokespecial 3, 3) := by decide +kernel
theorem dX2_init_4 : decode cX2_init 4 = .ok (.aload_n 0, 1) := by decide +kernel
theorem dX2_init_5 : decode cX2_init 5 = .ok (.new 9, 3) := by decide +kernel
theorem dX2_init_8 : decode cX2_init 8 = .ok (.dup, 1) := by decide +kernel
theorem dX2_init_9 : decode cX2_init 9 = .ok (.invokespecial 11, 3) := by decide +kernel
theorem dX2_init_12 : decode cX2_init 12 = .ok (.putfield 12, 3) := by decide +kernel
theorem dX2_init_15 : decode cX2_init 15 = .ok (.aload_n 0, 1) := by decide +kernel
theorem dX2_init_16 : decode cX2_init 16 = .ok (.aload_n 0, 1) := by decide +kernel
theorem dX2_init_17 : decode cX2_init 17 = .ok (.getfield 12, 3) := by decide +kernel
theorem dX2_init_20 : decode cX2_init 20 = .ok (.getfield 18, 3) := by decide +kernel
theorem dX2_init_23 : decode cX2_init 23 = .ok (.putfield 22, 3) := by decide +kernel
theorem dX2_init_26 : decode cX2_init 26 = .ok (.aload_n 0, 1) := by decide +kernel
theorem dX2_init_27 : decode cX2_init 27 = .ok (.aload_n 0, 1) := by decide +kernel
theorem dX2_init_28 : decode cX2_init 28 = .ok (.getfield 12, 3) := by decide +kernel
theorem dX2_init_31 : decode cX2_init 31 = .ok (.getfield 23, 3) := by decide +kernel
theorem dX2_init_34 : decode cX2_init 34 = .ok (.putfield 27, 3) := by decide +kernel
theorem dX2_init_37 : decode cX2_init 37 = .ok (.aload_n 0, 1) := by decide +kernel
theorem dX2_init_38 : decode cX2_init 38 = .ok (.new 28, 3) := by decide +kernel
theorem dX2_init_41 : decode cX2_init 41 = .ok (.dup, 1) := by decide +kernel
theorem dX2_init_42 : decode cX2_init 42 = .ok (.invokespecial 30, 3) := by decide +kernel
theorem dX2_init_45 : decode cX2_init 45 = .ok (.putfield 31, 3) := by decide +kernel
theorem dX2_init_48 : decode cX2_init 48 = .ok (.aload_n 0, 1) := by decide +kernel
theorem dX2_init_49 : decode cX2_init 49 = .ok (.invokevirtual 35, 3) := by decide +kernel
theorem dX2_init_52 : decode cX2_init 52 = .ok (.return_, 1) := by decide +kernel
theorem dX2_redraws_0 : decode cX2_redraws 0 = .ok (.aload_n 0, 1) := by decide +kernel
theorem dX2_redraws_1 : decode cX2_redraws 1 = .ok (.getfield 31, 3) := by decide +kernel
theorem dX2_redraws_4 : decode cX2_redraws 4 = .ok (.aload_n 0, 1) := by decide +kernel
theorem dX2_redraws_5 : decode cX2_redraws 5 = .ok (.getfield 22, 3) := by decide +kernel
theorem dX2_redraws_8 : decode cX2_redraws 8 = .ok (.invokevirtual 38, 3) := by decide +kernel
theorem dX2_redraws_11 : decode cX2_redraws 11 = .ok (.return_, 1) := by decide +kernel
theorem dX2_resizes_0 : decode cX2_resizes 0 = .ok (.aload_n 0, 1) := by decide +kernel
theorem dX2_resizes_1 : decode cX2_resizes 1 = .ok (.getfield 22, 3) := by decide +kernel
theorem dX2_resizes_4 : decode cX2_resizes 4 = .ok (.iload_n 1, 1) := by decide +kernel
theorem dX2_resizes_5 : decode cX2_resizes 5 = .ok (.invokevirtual 42, 3) := by decide +kernel
theorem dX2_resizes_8 : decode cX2_resizes 8 = .ok (.istore_n 2, 1) := by decide +kernel
theorem dX2_resizes_9 : decode cX2_resizes 9 = .ok (.iload_n 2, 1) := by decide +kernel
theorem dX2_resizes_10 : decode cX2_resizes 10 = .ok (.bipush (-2), 2) := by decide +kernel
theorem dX2_resizes_12 : decode cX2_resizes 12 = .ok (.if_icmp .eq 12, 3) := by decide +kernel
theorem dX2_resizes_15 : decode cX2_resizes 15 = .ok (.aload_n 0, 1) := by decide +kernel
theorem dX2_resizes_16 : decode cX2_resizes 16 = .ok (.getfield 27, 3) := by decide +kernel
theorem dX2_resizes_19 : decode cX2_resizes 19 = .ok (.iconst 0, 1) := by decide +kernel
theorem dX2_resizes_20 : decode cX2_resizes 20 = .ok (.iconst 0, 1) := by decide +kernel
theorem dX2_resizes_21 : decode cX2_resizes 21 = .ok (.invokevirtual 48, 3) := by decide +kernel
theorem dX2_resizes_24 : decode cX2_resizes 24 = .ok (.iload_n 2, 1) := by decide +kernel
theorem dX2_resizes_25 : decode cX2_resizes 25 = .ok (.ireturn, 1) := by decide +kernel
theorem dX2_cellValue_0 : decode cX2_cellValue 0 = .ok (.aload_n 0, 1) := by decide +kernel
theorem dX2_cellValue_1 : decode cX2_cellValue 1 = .ok (.getfield 22, 3) := by decide +kernel
theorem dX2_cellValue_4 : decode cX2_cellValue 4 = .ok (.iload_n 1, 1) := by decide +kernel
theorem dX2_cellValue_5 : decode cX2_cellValue 5 = .ok (.invokevirtual 54, 3) := by decide +kernel
theorem dX2_cellValue_8 : decode cX2_cellValue 8 = .ok (.ifCond .ne 6, 3) := by decide +kernel
theorem dX2_cellValue_11 : decode cX2_cellValue 11 = .ok (.bipush (-2), 2) := by decide +kernel
theorem dX2_cellValue_13 : decode cX2_cellValue 13 = .ok (.ireturn, 1) := by decide +kernel
theorem dX2_cellValue_14 : decode cX2_cellValue 14 = .ok (.iload_n 2, 1) := by decide +kernel
theorem dX2_cellValue_15 : decode cX2_cellValue 15 = .ok (.tableswitch 85 0 4 #[33, 43, 56, 66, 75], 33) := by decide +kernel
theorem dX2_cellValue_48 : decode cX2_cellValue 48 = .ok (.aload_n 0, 1) := by decide +kernel
theorem dX2_cellValue_49 : decode cX2_cellValue 49 = .ok (.getfield 22, 3) := by decide +kernel
theorem dX2_cellValue_52 : decode cX2_cellValue 52 = .ok (.getfield 58, 3) := by decide +kernel
theorem dX2_cellValue_55 : decode cX2_cellValue 55 = .ok (.iload_n 1, 1) := by decide +kernel
theorem dX2_cellValue_56 : decode cX2_cellValue 56 = .ok (.iaload, 1) := by decide +kernel
theorem dX2_cellValue_57 : decode cX2_cellValue 57 = .ok (.ireturn, 1) := by decide +kernel
theorem dX2_cellValue_58 : decode cX2_cellValue 58 = .ok (.aload_n 0, 1) := by decide +kernel
theorem dX2_cellValue_59 : decode cX2_cellValue 59 = .ok (.getfield 22, 3) := by decide +kernel
theorem dX2_cellValue_62 : decode cX2_cellValue 62 = .ok (.getfield 62, 3) := by decide +kernel
theorem dX2_cellValue_65 : decode cX2_cellValue 65 = .ok (.iload_n 1, 1) := by decide +kernel
theorem dX2_cellValue_66 : decode cX2_cellValue 66 = .ok (.iaload, 1) := by decide +kernel
theorem dX2_cellValue_67 : decode cX2_cellValue 67 = .ok (.bipush 20, 2) := by decide +kernel
theorem dX2_cellValue_69 : decode cX2_cellValue 69 = .ok (.iadd, 1) := by decide +kernel
theorem dX2_cellValue_70 : decode cX2_cellValue 70 = .ok (.ireturn, 1) := by decide +kernel
theorem dX2_cellValue_71 : decode cX2_cellValue 71 = .ok (.aload_n 0, 1) := by decide +kernel
theorem dX2_cellValue_72 : decode cX2_cellValue 72 = .ok (.getfield 22, 3) := by decide +kernel
theorem dX2_cellValue_75 : decode cX2_cellValue 75 = .ok (.getfield 65, 3) := by decide +kernel
theorem dX2_cellValue_78 : decode cX2_cellValue 78 = .ok (.iload_n 1, 1) := by decide +kernel
theorem dX2_cellValue_79 : decode cX2_cellValue 79 = .ok (.iaload, 1) := by decide +kernel
theorem dX2_cellValue_80 : decode cX2_cellValue 80 = .ok (.ireturn, 1) := by decide +kernel
theorem dX2_cellValue_81 : decode cX2_cellValue 81 = .ok (.aload_n 0, 1) := by decide +kernel
theorem dX2_cellValue_82 : decode cX2_cellValue 82 = .ok (.getfield 22, 3) := by decide +kernel
theorem dX2_cellValue_85 : decode cX2_cellValue 85 = .ok (.iload_n 1, 1) := by decide +kernel
theorem dX2_cellValue_86 : decode cX2_cellValue 86 = .ok (.invokevirtual 68, 3) := by decide +kernel
theorem dX2_cellValue_89 : decode cX2_cellValue 89 = .ok (.ireturn, 1) := by decide +kernel
theorem dX2_cellValue_90 : decode cX2_cellValue 90 = .ok (.aload_n 0, 1) := by decide +kernel
theorem dX2_cellValue_91 : decode cX2_cellValue 91 = .ok (.getfield 31, 3) := by decide +kernel
theorem dX2_cellValue_94 : decode cX2_cellValue 94 = .ok (.getfield 71, 3) := by decide +kernel
theorem dX2_cellValue_97 : decode cX2_cellValue 97 = .ok (.iload_n 1, 1) := by decide +kernel
theorem dX2_cellValue_98 : decode cX2_cellValue 98 = .ok (.iaload, 1) := by decide +kernel
theorem dX2_cellValue_99 : decode cX2_cellValue 99 = .ok (.ireturn, 1) := by decide +kernel
theorem dX2_cellValue_100 : decode cX2_cellValue 100 = .ok (.bipush (-2), 2) := by decide +kernel
theorem dX2_cellValue_102 : decode cX2_cellValue 102 = .ok (.ireturn, 1) := by decide +kernel
theorem dX2_countPermitted_0 : decode cX2_countPermitted 0 = .ok (.iconst 0, 1) := by decide +kernel
theorem dX2_countPermitted_1 : decode cX2_countPermitted 1 = .ok (.istore_n 2, 1) := by decide +kernel
theorem dX2_countPermitted_2 : decode cX2_countPermitted 2 = .ok (.iconst 0, 1) := by decide +kernel
theorem dX2_countPermitted_3 : decode cX2_countPermitted 3 = .ok (.istore_n 3, 1) := by decide +kernel
theorem dX2_countPermitted_4 : decode cX2_countPermitted 4 = .ok (.iload_n 3, 1) := by decide +kernel
theorem dX2_countPermitted_5 : decode cX2_countPermitted 5 = .ok (.aload_n 0, 1) := by decide +kernel
theorem dX2_countPermitted_6 : decode cX2_countPermitted 6 = .ok (.getfield 22, 3) := by decide +kernel
theorem dX2_countPermitted_9 : decode cX2_countPermitted 9 = .ok (.getfield 74, 3) := by decide +kernel
theorem dX2_countPermitted_12 : decode cX2_countPermitted 12 = .ok (.if_icmp .ge 28, 3) := by decide +kernel
theorem dX2_countPermitted_15 : decode cX2_countPermitted 15 = .ok (.aload_n 0, 1) := by decide +kernel
theorem dX2_countPermitted_16 : decode cX2_countPermitted 16 = .ok (.getfield 31, 3) := by decide +kernel
theorem dX2_countPermitted_19 : decode cX2_countPermitted 19 = .ok (.getfield 78, 3) := by decide +kernel
theorem dX2_countPermitted_22 : decode cX2_countPermitted 22 = .ok (.iload_n 3, 1) := by decide +kernel
theorem dX2_countPermitted_23 : decode cX2_countPermitted 23 = .ok (.iaload, 1) := by decide +kernel
theorem dX2_countPermitted_24 : decode cX2_countPermitted 24 = .ok (.invokestatic 81, 3) := by decide +kernel
theorem dX2_countPermitted_27 : decode cX2_countPermitted 27 = .ok (.iload_n 1, 1) := by decide +kernel
theorem dX2_countPermitted_28 : decode cX2_countPermitted 28 = .ok (.if_icmp .ne 6, 3) := by decide +kernel
theorem dX2_countPermitted_31 : decode cX2_countPermitted 31 = .ok (.iinc 2 1, 3) := by decide +kernel
theorem dX2_countPermitted_34 : decode cX2_countPermitted 34 = .ok (.iinc 3 1, 3) := by decide +kernel
theorem dX2_countPermitted_37 : decode cX2_countPermitted 37 = .ok (.goto (-33), 3) := by decide +kernel
theorem dX2_countPermitted_40 : decode cX2_countPermitted 40 = .ok (.iload_n 2, 1) := by decide +kernel
theorem dX2_countPermitted_41 : decode cX2_countPermitted 41 = .ok (.ireturn, 1) := by decide +kernel
theorem dX2_putsTrain_0 : decode cX2_putsTrain 0 = .ok (.aload_n 0, 1) := by decide +kernel
theorem dX2_putsTrain_1 : decode cX2_putsTrain 1 = .ok (.getfield 22, 3) := by decide +kernel
theorem dX2_putsTrain_4 : decode cX2_putsTrain 4 = .ok (.iload_n 1, 1) := by decide +kernel
theorem dX2_putsTrain_5 : decode cX2_putsTrain 5 = .ok (.invokevirtual 54, 3) := by decide +kernel
theorem dX2_putsTrain_8 : decode cX2_putsTrain 8 = .ok (.ifCond .eq 13, 3) := by decide +kernel
theorem dX2_putsTrain_11 : decode cX2_putsTrain 11 = .ok (.iload_n 2, 1) := by decide +kernel
theorem dX2_putsTrain_12 : decode cX2_putsTrain 12 = .ok (.iconst 0, 1) := by decide +kernel
theorem dX2_putsTrain_13 : decode cX2_putsTrain 13 = .ok (.bipush 99, 2) := by decide +kernel
theorem dX2_putsTrain_15 : decode cX2_putsTrain 15 = .ok (.invokestatic 84, 3) := by decide +kernel
theorem dX2_putsTrain_18 : decode cX2_putsTrain 18 = .ok (.ifCond .ne 6, 3) := by decide +kernel
theorem dX2_putsTrain_21 : decode cX2_putsTrain 21 = .ok (.bipush (-2), 2) := by decide +kernel
theorem dX2_putsTrain_23 : decode cX2_putsTrain 23 = .ok (.ireturn, 1) := by decide +kernel
theorem dX2_putsTrain_24 : decode cX2_putsTrain 24 = .ok (.aload_n 0, 1) := by decide +kernel
theorem dX2_putsTrain_25 : decode cX2_putsTrain 25 = .ok (.getfield 27, 3) := by decide +kernel
theorem dX2_putsTrain_28 : decode cX2_putsTrain 28 = .ok (.iload_n 1, 1) := by decide +kernel
theorem dX2_putsTrain_29 : decode cX2_putsTrain 29 = .ok (.iload_n 2, 1) := by decide +kernel
theorem dX2_putsTrain_30 : decode cX2_putsTrain 30 = .ok (.iload_n 2, 1) := by decide +kernel
theorem dX2_putsTrain_31 : decode cX2_putsTrain 31 = .ok (.imul, 1) := by decide +kernel
theorem dX2_putsTrain_32 : decode cX2_putsTrain 32 = .ok (.invokevirtual 48, 3) := by decide +kernel
theorem dX2_putsTrain_35 : decode cX2_putsTrain 35 = .ok (.aload_n 0, 1) := by decide +kernel
theorem dX2_putsTrain_36 : decode cX2_putsTrain 36 = .ok (.invokevirtual 88, 3) := by decide +kernel
theorem dX2_putsTrain_39 : decode cX2_putsTrain 39 = .ok (.aload_n 0, 1) := by decide +kernel
theorem dX2_putsTrain_40 : decode cX2_putsTrain 40 = .ok (.getfield 27, 3) := by decide +kernel
theorem dX2_putsTrain_43 : decode cX2_putsTrain 43 = .ok (.getfield 91, 3) := by decide +kernel
theorem dX2_putsTrain_46 : decode cX2_putsTrain 46 = .ok (.ireturn, 1) := by decide +kernel
theorem dX2_stepsOnce_0 : decode cX2_stepsOnce 0 = .ok (.iload_n 1, 1) := by decide +kernel
theorem dX2_stepsOnce_1 : decode cX2_stepsOnce 1 = .ok (.iconst (-1), 1) := by decide +kernel
theorem dX2_stepsOnce_2 : decode cX2_stepsOnce 2 = .ok (.iconst 1, 1) := by decide +kernel
theorem dX2_stepsOnce_3 : decode cX2_stepsOnce 3 = .ok (.invokestatic 84, 3) := by decide +kernel
theorem dX2_stepsOnce_6 : decode cX2_stepsOnce 6 = .ok (.ifCond .ne 6, 3) := by decide +kernel
theorem dX2_stepsOnce_9 : decode cX2_stepsOnce 9 = .ok (.bipush (-2), 2) := by decide +kernel
theorem dX2_stepsOnce_11 : decode cX2_stepsOnce 11 = .ok (.ireturn, 1) := by decide +kernel
theorem dX2_stepsOnce_12 : decode cX2_stepsOnce 12 = .ok (.aload_n 0, 1) := by decide +kernel
theorem dX2_stepsOnce_13 : decode cX2_stepsOnce 13 = .ok (.iload_n 1, 1) := by decide +kernel
theorem dX2_stepsOnce_14 : decode cX2_stepsOnce 14 = .ok (.invokevirtual 94, 3) := by decide +kernel
theorem dX2_stepsOnce_17 : decode cX2_stepsOnce 17 = .ok (.ifCond .eq 7, 3) := by decide +kernel
theorem dX2_stepsOnce_20 : decode cX2_stepsOnce 20 = .ok (.iconst 1, 1) := by decide +kernel
theorem dX2_stepsOnce_21 : decode cX2_stepsOnce 21 = .ok (.goto 4, 3) := by decide +kernel
theorem dX2_stepsOnce_24 : decode cX2_stepsOnce 24 = .ok (.iconst 0, 1) := by decide +kernel
theorem dX2_stepsOnce_25 : decode cX2_stepsOnce 25 = .ok (.ireturn, 1) := by decide +kernel
theorem dX2_stepsByDriver_0 : decode cX2_stepsByDriver 0 = .ok (.iload_n 1, 1) := by decide +kernel
theorem dX2_stepsByDriver_1 : decode cX2_stepsByDriver 1 = .ok (.iconst 1, 1) := by decide +kernel
theorem dX2_stepsByDriver_2 : decode cX2_stepsByDriver 2 = .ok (.bipush 50, 2) := by decide +kernel
theorem dX2_stepsByDriver_4 : decode cX2_stepsByDriver 4 = .ok (.invokestatic 84, 3) := by decide +kernel
theorem dX2_stepsByDriver_7 : decode cX2_stepsByDriver 7 = .ok (.ifCond .ne 6, 3) := by decide +kernel
theorem dX2_stepsByDriver_10 : decode cX2_stepsByDriver 10 = .ok (.bipush (-2), 2) := by decide +kernel
theorem dX2_stepsByDriver_12 : decode cX2_stepsByDriver 12 = .ok (.ireturn, 1) := by decide +kernel
theorem dX2_stepsByDriver_13 : decode cX2_stepsByDriver 13 = .ok (.iconst 0, 1) := by decide +kernel
theorem dX2_stepsByDriver_14 : decode cX2_stepsByDriver 14 = .ok (.istore_n 2, 1) := by decide +kernel
theorem dX2_stepsByDriver_15 : decode cX2_stepsByDriver 15 = .ok (.iload_n 2, 1) := by decide +kernel
theorem dX2_stepsByDriver_16 : decode cX2_stepsByDriver 16 = .ok (.iload_n 1, 1) := by decide +kernel
theorem dX2_stepsByDriver_17 : decode cX2_stepsByDriver 17 = .ok (.if_icmp .ge 20, 3) := by decide +kernel
theorem dX2_stepsByDriver_20 : decode cX2_stepsByDriver 20 = .ok (.aload_n 0, 1) := by decide +kernel
theorem dX2_stepsByDriver_21 : decode cX2_stepsByDriver 21 = .ok (.aload_n 0, 1) := by decide +kernel
theorem dX2_stepsByDriver_22 : decode cX2_stepsByDriver 22 = .ok (.invokevirtual 97, 3) := by decide +kernel
theorem dX2_stepsByDriver_25 : decode cX2_stepsByDriver 25 = .ok (.invokevirtual 94, 3) := by decide +kernel
theorem dX2_stepsByDriver_28 : decode cX2_stepsByDriver 28 = .ok (.ifCond .eq 9, 3) := by decide +kernel
theorem dX2_stepsByDriver_31 : decode cX2_stepsByDriver 31 = .ok (.iinc 2 1, 3) := by decide +kernel
theorem dX2_stepsByDriver_34 : decode cX2_stepsByDriver 34 = .ok (.goto (-19), 3) := by decide +kernel
theorem dX2_stepsByDriver_37 : decode cX2_stepsByDriver 37 = .ok (.iload_n 2, 1) := by decide +kernel
theorem dX2_stepsByDriver_38 : decode cX2_stepsByDriver 38 = .ok (.ireturn, 1) := by decide +kernel
theorem dX2_releases_0 : decode cX2_releases 0 = .ok (.aload_n 0, 1) := by decide +kernel
theorem dX2_releases_1 : decode cX2_releases 1 = .ok (.getfield 27, 3) := by decide +kernel
theorem dX2_releases_4 : decode cX2_releases 4 = .ok (.getfield 91, 3) := by decide +kernel
theorem dX2_releases_7 : decode cX2_releases 7 = .ok (.iconst 3, 1) := by decide +kernel
theorem dX2_releases_8 : decode cX2_releases 8 = .ok (.if_icmp .ne 13, 3) := by decide +kernel
theorem dX2_releases_11 : decode cX2_releases 11 = .ok (.aload_n 0, 1) := by decide +kernel
theorem dX2_releases_12 : decode cX2_releases 12 = .ok (.getfield 27, 3) := by decide +kernel
theorem dX2_releases_15 : decode cX2_releases 15 = .ok (.getfield 101, 3) := by decide +kernel
theorem dX2_releases_18 : decode cX2_releases 18 = .ok (.ifCond .eq 6, 3) := by decide +kernel
theorem dX2_releases_21 : decode cX2_releases 21 = .ok (.bipush (-3), 2) := by decide +kernel
theorem dX2_releases_23 : decode cX2_releases 23 = .ok (.ireturn, 1) := by decide +kernel
theorem dX2_releases_24 : decode cX2_releases 24 = .ok (.aload_n 0, 1) := by decide +kernel
theorem dX2_releases_25 : decode cX2_releases 25 = .ok (.getfield 27, 3) := by decide +kernel
theorem dX2_releases_28 : decode cX2_releases 28 = .ok (.iconst 0, 1) := by decide +kernel
theorem dX2_releases_29 : decode cX2_releases 29 = .ok (.putfield 91, 3) := by decide +kernel
theorem dX2_releases_32 : decode cX2_releases 32 = .ok (.aload_n 0, 1) := by decide +kernel
theorem dX2_releases_33 : decode cX2_releases 33 = .ok (.invokevirtual 88, 3) := by decide +kernel
theorem dX2_releases_36 : decode cX2_releases 36 = .ok (.aload_n 0, 1) := by decide +kernel
theorem dX2_releases_37 : decode cX2_releases 37 = .ok (.getfield 27, 3) := by decide +kernel
theorem dX2_releases_40 : decode cX2_releases 40 = .ok (.getfield 91, 3) := by decide +kernel
theorem dX2_releases_43 : decode cX2_releases 43 = .ok (.ireturn, 1) := by decide +kernel
theorem dX2_goesOn_0 : decode cX2_goesOn 0 = .ok (.aload_n 0, 1) := by decide +kernel
theorem dX2_goesOn_1 : decode cX2_goesOn 1 = .ok (.getfield 27, 3) := by decide +kernel
theorem dX2_goesOn_4 : decode cX2_goesOn 4 = .ok (.getfield 101, 3) := by decide +kernel
theorem dX2_goesOn_7 : decode cX2_goesOn 7 = .ok (.aload_n 0, 1) := by decide +kernel
theorem dX2_goesOn_8 : decode cX2_goesOn 8 = .ok (.aload_n 0, 1) := by decide +kernel
theorem dX2_goesOn_9 : decode cX2_goesOn 9 = .ok (.getfield 27, 3) := by decide +kernel
theorem dX2_goesOn_12 : decode cX2_goesOn 12 = .ok (.getfield 91, 3) := by decide +kernel
theorem dX2_goesOn_15 : decode cX2_goesOn 15 = .ok (.iload_n 1, 1) := by decide +kernel
theorem dX2_goesOn_16 : decode cX2_goesOn 16 = .ok (.invokevirtual 104, 3) := by decide +kernel
theorem dX2_goesOn_19 : decode cX2_goesOn 19 = .ok (.iadd, 1) := by decide +kernel
theorem dX2_goesOn_20 : decode cX2_goesOn 20 = .ok (.istore_n 2, 1) := by decide +kernel
theorem dX2_goesOn_21 : decode cX2_goesOn 21 = .ok (.aload_n 0, 1) := by decide +kernel
theorem dX2_goesOn_22 : decode cX2_goesOn 22 = .ok (.getfield 27, 3) := by decide +kernel
theorem dX2_goesOn_25 : decode cX2_goesOn 25 = .ok (.getfield 108, 3) := by decide +kernel
theorem dX2_goesOn_28 : decode cX2_goesOn 28 = .ok (.aload_n 0, 1) := by decide +kernel
theorem dX2_goesOn_29 : decode cX2_goesOn 29 = .ok (.getfield 22, 3) := by decide +kernel
theorem dX2_goesOn_32 : decode cX2_goesOn 32 = .ok (.getfield 74, 3) := by decide +kernel
theorem dX2_goesOn_35 : decode cX2_goesOn 35 = .ok (.iconst 1, 1) := by decide +kernel
theorem dX2_goesOn_36 : decode cX2_goesOn 36 = .ok (.isub, 1) := by decide +kernel
theorem dX2_goesOn_37 : decode cX2_goesOn 37 = .ok (.if_icmp .lt 7, 3) := by decide +kernel
theorem dX2_goesOn_40 : decode cX2_goesOn 40 = .ok (.iconst 1, 1) := by decide +kernel
theorem dX2_goesOn_41 : decode cX2_goesOn 41 = .ok (.goto 4, 3) := by decide +kernel
theorem dX2_goesOn_44 : decode cX2_goesOn 44 = .ok (.iconst 0, 1) := by decide +kernel
theorem dX2_goesOn_45 : decode cX2_goesOn 45 = .ok (.istore_n 3, 1) := by decide +kernel
theorem dX2_goesOn_46 : decode cX2_goesOn 46 = .ok (.iload_n 2, 1) := by decide +kernel
theorem dX2_goesOn_47 : decode cX2_goesOn 47 = .ok (.ifCond .le 11, 3) := by decide +kernel
theorem dX2_goesOn_50 : decode cX2_goesOn 50 = .ok (.iload_n 3, 1) := by decide +kernel
theorem dX2_goesOn_51 : decode cX2_goesOn 51 = .ok (.ifCond .ne 7, 3) := by decide +kernel
theorem dX2_goesOn_54 : decode cX2_goesOn 54 = .ok (.iconst 1, 1) := by decide +kernel
theorem dX2_goesOn_55 : decode cX2_goesOn 55 = .ok (.goto 4, 3) := by decide +kernel
theorem dX2_goesOn_58 : decode cX2_goesOn 58 = .ok (.iconst 0, 1) := by decide +kernel
theorem dX2_goesOn_59 : decode cX2_goesOn 59 = .ok (.istore 4, 2) := by decide +kernel
theorem dX2_goesOn_61 : decode cX2_goesOn 61 = .ok (.iload 4, 2) := by decide +kernel
theorem dX2_goesOn_63 : decode cX2_goesOn 63 = .ok (.ifCond .eq 18, 3) := by decide +kernel
theorem dX2_goesOn_66 : decode cX2_goesOn 66 = .ok (.aload_n 0, 1) := by decide +kernel
theorem dX2_goesOn_67 : decode cX2_goesOn 67 = .ok (.getfield 27, 3) := by decide +kernel
theorem dX2_goesOn_70 : decode cX2_goesOn 70 = .ok (.iload_n 2, 1) := by decide +kernel
theorem dX2_goesOn_71 : decode cX2_goesOn 71 = .ok (.aload_n 0, 1) := by decide +kernel
theorem dX2_goesOn_72 : decode cX2_goesOn 72 = .ok (.getfield 22, 3) := by decide +kernel
theorem dX2_goesOn_75 : decode cX2_goesOn 75 = .ok (.invokevirtual 111, 3) := by decide +kernel
theorem dX2_goesOn_78 : decode cX2_goesOn 78 = .ok (.goto 28, 3) := by decide +kernel
theorem dX2_goesOn_81 : decode cX2_goesOn 81 = .ok (.aload_n 0, 1) := by decide +kernel
theorem dX2_goesOn_82 : decode cX2_goesOn 82 = .ok (.getfield 27, 3) := by decide +kernel
theorem dX2_goesOn_85 : decode cX2_goesOn 85 = .ok (.iconst 0, 1) := by decide +kernel
theorem dX2_goesOn_86 : decode cX2_goesOn 86 = .ok (.putfield 101, 3) := by decide +kernel
theorem dX2_goesOn_89 : decode cX2_goesOn 89 = .ok (.iload_n 2, 1) := by decide +kernel
theorem dX2_goesOn_90 : decode cX2_goesOn 90 = .ok (.ifCond .le 16, 3) := by decide +kernel
theorem dX2_goesOn_93 : decode cX2_goesOn 93 = .ok (.aload_n 0, 1) := by decide +kernel
theorem dX2_goesOn_94 : decode cX2_goesOn 94 = .ok (.getfield 27, 3) := by decide +kernel
theorem dX2_goesOn_97 : decode cX2_goesOn 97 = .ok (.dup, 1) := by decide +kernel
theorem dX2_goesOn_98 : decode cX2_goesOn 98 = .ok (.getfield 114, 3) := by decide +kernel
theorem dX2_goesOn_101 : decode cX2_goesOn 101 = .ok (.iconst 1, 1) := by decide +kernel
theorem dX2_goesOn_102 : decode cX2_goesOn 102 = .ok (.iadd, 1) := by decide +kernel
theorem dX2_goesOn_103 : decode cX2_goesOn 103 = .ok (.putfield 114, 3) := by decide +kernel
theorem dX2_goesOn_106 : decode cX2_goesOn 106 = .ok (.aload_n 0, 1) := by decide +kernel
theorem dX2_goesOn_107 : decode cX2_goesOn 107 = .ok (.invokevirtual 88, 3) := by decide +kernel
theorem dX2_goesOn_110 : decode cX2_goesOn 110 = .ok (.iload 4, 2) := by decide +kernel
theorem dX2_goesOn_112 : decode cX2_goesOn 112 = .ok (.ireturn, 1) := by decide +kernel
theorem dX2_gain_0 : decode cX2_gain 0 = .ok (.aload_n 0, 1) := by decide +kernel
theorem dX2_gain_1 : decode cX2_gain 1 = .ok (.getfield 22, 3) := by decide +kernel
theorem dX2_gain_4 : decode cX2_gain 4 = .ok (.getfield 117, 3) := by decide +kernel
theorem dX2_gain_7 : decode cX2_gain 7 = .ok (.iconst 0, 1) := by decide +kernel
theorem dX2_gain_8 : decode cX2_gain 8 = .ok (.iaload, 1) := by decide +kernel
theorem dX2_gain_9 : decode cX2_gain 9 = .ok (.istore_n 3, 1) := by decide +kernel
theorem dX2_gain_10 : decode cX2_gain 10 = .ok (.aload_n 0, 1) := by decide +kernel
theorem dX2_gain_11 : decode cX2_gain 11 = .ok (.getfield 22, 3) := by decide +kernel
theorem dX2_gain_14 : decode cX2_gain 14 = .ok (.getfield 62, 3) := by decide +kernel
theorem dX2_gain_17 : decode cX2_gain 17 = .ok (.aload_n 0, 1) := by decide +kernel
theorem dX2_gain_18 : decode cX2_gain 18 = .ok (.getfield 27, 3) := by decide +kernel
theorem dX2_gain_21 : decode cX2_gain 21 = .ok (.getfield 108, 3) := by decide +kernel
theorem dX2_gain_24 : decode cX2_gain 24 = .ok (.iaload, 1) := by decide +kernel
theorem dX2_gain_25 : decode cX2_gain 25 = .ok (.istore 4, 2) := by decide +kernel
theorem dX2_gain_27 : decode cX2_gain 27 = .ok (.iload_n 1, 1) := by decide +kernel
theorem dX2_gain_28 : decode cX2_gain 28 = .ok (.iconst 3, 1) := by decide +kernel
theorem dX2_gain_29 : decode cX2_gain 29 = .ok (.if_icmp .ne 19, 3) := by decide +kernel
theorem dX2_gain_32 : decode cX2_gain 32 = .ok (.aload_n 0, 1) := by decide +kernel
theorem dX2_gain_33 : decode cX2_gain 33 = .ok (.getfield 22, 3) := by decide +kernel
theorem dX2_gain_36 : decode cX2_gain 36 = .ok (.aload_n 0, 1) := by decide +kernel
theorem dX2_gain_37 : decode cX2_gain 37 = .ok (.getfield 27, 3) := by decide +kernel
theorem dX2_gain_40 : decode cX2_gain 40 = .ok (.getfield 108, 3) := by decide +kernel
theorem dX2_gain_43 : decode cX2_gain 43 = .ok (.invokevirtual 68, 3) := by decide +kernel
theorem dX2_gain_46 : decode cX2_gain 46 = .ok (.ineg, 1) := by decide +kernel
theorem dX2_gain_47 : decode cX2_gain 47 = .ok (.ireturn, 1) := by decide +kernel
theorem dX2_gain_48 : decode cX2_gain 48 = .ok (.iload_n 1, 1) := by decide +kernel
theorem dX2_gain_49 : decode cX2_gain 49 = .ok (.iconst 2, 1) := by decide +kernel
theorem dX2_gain_50 : decode cX2_gain 50 = .ok (.if_icmp .ne 13, 3) := by decide +kernel
theorem dX2_gain_53 : decode cX2_gain 53 = .ok (.iconst 3, 1) := by decide +kernel
theorem dX2_gain_54 : decode cX2_gain 54 = .ok (.iload_n 3, 1) := by decide +kernel
theorem dX2_gain_55 : decode cX2_gain 55 = .ok (.imul, 1) := by decide +kernel
theorem dX2_gain_56 : decode cX2_gain 56 = .ok (.iconst 4, 1) := by decide +kernel
theorem dX2_gain_57 : decode cX2_gain 57 = .ok (.idiv, 1) := by decide +kernel
theorem dX2_gain_58 : decode cX2_gain 58 = .ok (.ineg, 1) := by decide +kernel
theorem dX2_gain_59 : decode cX2_gain 59 = .ok (.iload 4, 2) := by decide +kernel
theorem dX2_gain_61 : decode cX2_gain 61 = .ok (.isub, 1) := by decide +kernel
theorem dX2_gain_62 : decode cX2_gain 62 = .ok (.ireturn, 1) := by decide +kernel
theorem dX2_gain_63 : decode cX2_gain 63 = .ok (.iload_n 2, 1) := by decide +kernel
theorem dX2_gain_64 : decode cX2_gain 64 = .ok (.ifCond .ge 11, 3) := by decide +kernel
theorem dX2_gain_67 : decode cX2_gain 67 = .ok (.iload_n 3, 1) := by decide +kernel
theorem dX2_gain_68 : decode cX2_gain 68 = .ok (.iconst 2, 1) := by decide +kernel
theorem dX2_gain_69 : decode cX2_gain 69 = .ok (.idiv, 1) := by decide +kernel
theorem dX2_gain_70 : decode cX2_gain 70 = .ok (.ineg, 1) := by decide +kernel
theorem dX2_gain_71 : decode cX2_gain 71 = .ok (.iload 4, 2) := by decide +kernel
theorem dX2_gain_73 : decode cX2_gain 73 = .ok (.isub, 1) := by decide +kernel
theorem dX2_gain_74 : decode cX2_gain 74 = .ok (.ireturn, 1) := by decide +kernel
theorem dX2_gain_75 : decode cX2_gain 75 = .ok (.iload_n 2, 1) := by decide +kernel
theorem dX2_gain_76 : decode cX2_gain 76 = .ok (.ifCond .ne 9, 3) := by decide +kernel
theorem dX2_gain_79 : decode cX2_gain 79 = .ok (.iload 4, 2) := by decide +kernel
theorem dX2_gain_81 : decode cX2_gain 81 = .ok (.ineg, 1) := by decide +kernel
theorem dX2_gain_82 : decode cX2_gain 82 = .ok (.goto 15, 3) := by decide +kernel
theorem dX2_gain_85 : decode cX2_gain 85 = .ok (.aload_n 0, 1) := by decide +kernel
theorem dX2_gain_86 : decode cX2_gain 86 = .ok (.getfield 22, 3) := by decide +kernel
theorem dX2_gain_89 : decode cX2_gain 89 = .ok (.getfield 117, 3) := by decide +kernel
theorem dX2_gain_92 : decode cX2_gain 92 = .ok (.iconst 1, 1) := by decide +kernel
theorem dX2_gain_93 : decode cX2_gain 93 = .ok (.iaload, 1) := by decide +kernel
theorem dX2_gain_94 : decode cX2_gain 94 = .ok (.iload 4, 2) := by decide +kernel
theorem dX2_gain_96 : decode cX2_gain 96 = .ok (.isub, 1) := by decide +kernel
theorem dX2_gain_97 : decode cX2_gain 97 = .ok (.ireturn, 1) := by decide +kernel
theorem dX2_supervises_0 : decode cX2_supervises 0 = .ok (.aload_n 0, 1) := by decide +kernel
theorem dX2_supervises_1 : decode cX2_supervises 1 = .ok (.getfield 27, 3) := by decide +kernel
theorem dX2_supervises_4 : decode cX2_supervises 4 = .ok (.getfield 91, 3) := by decide +kernel
theorem dX2_supervises_7 : decode cX2_supervises 7 = .ok (.iconst 3, 1) := by decide +kernel
theorem dX2_supervises_8 : decode cX2_supervises 8 = .ok (.if_icmp .ne 4, 3) := by decide +kernel
theorem dX2_supervises_11 : decode cX2_supervises 11 = .ok (.return_, 1) := by decide +kernel
theorem dX2_supervises_12 : decode cX2_supervises 12 = .ok (.aload_n 0, 1) := by decide +kernel
theorem dX2_supervises_13 : decode cX2_supervises 13 = .ok (.getfield 27, 3) := by decide +kernel
theorem dX2_supervises_16 : decode cX2_supervises 16 = .ok (.getfield 101, 3) := by decide +kernel
theorem dX2_supervises_19 : decode cX2_supervises 19 = .ok (.invokestatic 81, 3) := by decide +kernel
theorem dX2_supervises_22 : decode cX2_supervises 22 = .ok (.aload_n 0, 1) := by decide +kernel
theorem dX2_supervises_23 : decode cX2_supervises 23 = .ok (.invokevirtual 120, 3) := by decide +kernel
theorem dX2_supervises_26 : decode cX2_supervises 26 = .ok (.isub, 1) := by decide +kernel
theorem dX2_supervises_27 : decode cX2_supervises 27 = .ok (.istore_n 1, 1) := by decide +kernel
theorem dX2_supervises_28 : decode cX2_supervises 28 = .ok (.iload_n 1, 1) := by decide +kernel
theorem dX2_supervises_29 : decode cX2_supervises 29 = .ok (.aload_n 0, 1) := by decide +kernel
theorem dX2_supervises_30 : decode cX2_supervises 30 = .ok (.getfield 22, 3) := by decide +kernel
theorem dX2_supervises_33 : decode cX2_supervises 33 = .ok (.getfield 117, 3) := by decide +kernel
theorem dX2_supervises_36 : decode cX2_supervises 36 = .ok (.bipush 6, 2) := by decide +kernel
theorem dX2_supervises_38 : decode cX2_supervises 38 = .ok (.iaload, 1) := by decide +kernel
theorem dX2_supervises_39 : decode cX2_supervises 39 = .ok (.if_icmp .le 27, 3) := by decide +kernel
theorem dX2_supervises_42 : decode cX2_supervises 42 = .ok (.aload_n 0, 1) := by decide +kernel
theorem dX2_supervises_43 : decode cX2_supervises 43 = .ok (.getfield 27, 3) := by decide +kernel
theorem dX2_supervises_46 : decode cX2_supervises 46 = .ok (.iconst 3, 1) := by decide +kernel
theorem dX2_supervises_47 : decode cX2_supervises 47 = .ok (.putfield 91, 3) := by decide +kernel
theorem dX2_supervises_50 : decode cX2_supervises 50 = .ok (.aload_n 0, 1) := by decide +kernel
theorem dX2_supervises_51 : decode cX2_supervises 51 = .ok (.getfield 27, 3) := by decide +kernel
theorem dX2_supervises_54 : decode cX2_supervises 54 = .ok (.dup, 1) := by decide +kernel
theorem dX2_supervises_55 : decode cX2_supervises 55 = .ok (.getfield 123, 3) := by decide +kernel
theorem dX2_supervises_58 : decode cX2_supervises 58 = .ok (.iconst 1, 1) := by decide +kernel
theorem dX2_supervises_59 : decode cX2_supervises 59 = .ok (.iadd, 1) := by decide +kernel
theorem dX2_supervises_60 : decode cX2_supervises 60 = .ok (.putfield 123, 3) := by decide +kernel
theorem dX2_supervises_63 : decode cX2_supervises 63 = .ok (.goto 74, 3) := by decide +kernel
theorem dX2_supervises_66 : decode cX2_supervises 66 = .ok (.iload_n 1, 1) := by decide +kernel
theorem dX2_supervises_67 : decode cX2_supervises 67 = .ok (.aload_n 0, 1) := by decide +kernel
theorem dX2_supervises_68 : decode cX2_supervises 68 = .ok (.getfield 22, 3) := by decide +kernel
theorem dX2_supervises_71 : decode cX2_supervises 71 = .ok (.getfield 117, 3) := by decide +kernel
theorem dX2_supervises_74 : decode cX2_supervises 74 = .ok (.iconst 5, 1) := by decide +kernel
theorem dX2_supervises_75 : decode cX2_supervises 75 = .ok (.iaload, 1) := by decide +kernel
theorem dX2_supervises_76 : decode cX2_supervises 76 = .ok (.if_icmp .le 14, 3) := by decide +kernel
theorem dX2_supervises_79 : decode cX2_supervises 79 = .ok (.aload_n 0, 1) := by decide +kernel
theorem dX2_supervises_80 : decode cX2_supervises 80 = .ok (.getfield 27, 3) := by decide +kernel
theorem dX2_supervises_83 : decode cX2_supervises 83 = .ok (.iconst 2, 1) := by decide +kernel
theorem dX2_supervises_84 : decode cX2_supervises 84 = .ok (.putfield 91, 3) := by decide +kernel
theorem dX2_supervises_87 : decode cX2_supervises 87 = .ok (.goto 50, 3) := by decide +kernel
theorem dX2_supervises_90 : decode cX2_supervises 90 = .ok (.iload_n 1, 1) := by decide +kernel
theorem dX2_supervises_91 : decode cX2_supervises 91 = .ok (.aload_n 0, 1) := by decide +kernel
theorem dX2_supervises_92 : decode cX2_supervises 92 = .ok (.getfield 22, 3) := by decide +kernel
theorem dX2_supervises_95 : decode cX2_supervises 95 = .ok (.getfield 117, 3) := by decide +kernel
theorem dX2_supervises_98 : decode cX2_supervises 98 = .ok (.iconst 4, 1) := by decide +kernel
theorem dX2_supervises_99 : decode cX2_supervises 99 = .ok (.iaload, 1) := by decide +kernel
theorem dX2_supervises_100 : decode cX2_supervises 100 = .ok (.if_icmp .le 29, 3) := by decide +kernel
theorem dX2_supervises_103 : decode cX2_supervises 103 = .ok (.aload_n 0, 1) := by decide +kernel
theorem dX2_supervises_104 : decode cX2_supervises 104 = .ok (.getfield 27, 3) := by decide +kernel
theorem dX2_supervises_107 : decode cX2_supervises 107 = .ok (.aload_n 0, 1) := by decide +kernel
theorem dX2_supervises_108 : decode cX2_supervises 108 = .ok (.getfield 27, 3) := by decide +kernel
theorem dX2_supervises_111 : decode cX2_supervises 111 = .ok (.getfield 91, 3) := by decide +kernel
theorem dX2_supervises_114 : decode cX2_supervises 114 = .ok (.iconst 2, 1) := by decide +kernel
theorem dX2_supervises_115 : decode cX2_supervises 115 = .ok (.if_icmp .ne 7, 3) := by decide +kernel
theorem dX2_supervises_118 : decode cX2_supervises 118 = .ok (.iconst 2, 1) := by decide +kernel
theorem dX2_supervises_119 : decode cX2_supervises 119 = .ok (.goto 4, 3) := by decide +kernel
theorem dX2_supervises_122 : decode cX2_supervises 122 = .ok (.iconst 1, 1) := by decide +kernel
theorem dX2_supervises_123 : decode cX2_supervises 123 = .ok (.putfield 91, 3) := by decide +kernel
theorem dX2_supervises_126 : decode cX2_supervises 126 = .ok (.goto 11, 3) := by decide +kernel
theorem dX2_supervises_129 : decode cX2_supervises 129 = .ok (.aload_n 0, 1) := by decide +kernel
theorem dX2_supervises_130 : decode cX2_supervises 130 = .ok (.getfield 27, 3) := by decide +kernel
theorem dX2_supervises_133 : decode cX2_supervises 133 = .ok (.iconst 0, 1) := by decide +kernel
theorem dX2_supervises_134 : decode cX2_supervises 134 = .ok (.putfield 91, 3) := by decide +kernel
theorem dX2_supervises_137 : decode cX2_supervises 137 = .ok (.return_, 1) := by decide +kernel
theorem dX2_driverHandle_0 : decode cX2_driverHandle 0 = .ok (.aload_n 0, 1) := by decide +kernel
theorem dX2_driverHandle_1 : decode cX2_driverHandle 1 = .ok (.invokevirtual 126, 3) := by decide +kernel
theorem dX2_driverHandle_4 : decode cX2_driverHandle 4 = .ok (.iconst 1, 1) := by decide +kernel
theorem dX2_driverHandle_5 : decode cX2_driverHandle 5 = .ok (.iadd, 1) := by decide +kernel
theorem dX2_driverHandle_6 : decode cX2_driverHandle 6 = .ok (.aload_n 0, 1) := by decide +kernel
theorem dX2_driverHandle_7 : decode cX2_driverHandle 7 = .ok (.getfield 22, 3) := by decide +kernel
theorem dX2_driverHandle_10 : decode cX2_driverHandle 10 = .ok (.getfield 74, 3) := by decide +kernel
theorem dX2_driverHandle_13 : decode cX2_driverHandle 13 = .ok (.iconst 1, 1) := by decide +kernel
theorem dX2_driverHandle_14 : decode cX2_driverHandle 14 = .ok (.isub, 1) := by decide +kernel
theorem dX2_driverHandle_15 : decode cX2_driverHandle 15 = .ok (.invokestatic 129, 3) := by decide +kernel
theorem dX2_driverHandle_18 : decode cX2_driverHandle 18 = .ok (.istore_n 1, 1) := by decide +kernel
theorem dX2_driverHandle_19 : decode cX2_driverHandle 19 = .ok (.aload_n 0, 1) := by decide +kernel
theorem dX2_driverHandle_20 : decode cX2_driverHandle 20 = .ok (.getfield 31, 3) := by decide +kernel
theorem dX2_driverHandle_23 : decode cX2_driverHandle 23 = .ok (.aload_n 0, 1) := by decide +kernel
theorem dX2_driverHandle_24 : decode cX2_driverHandle 24 = .ok (.invokevirtual 134, 3) := by decide +kernel
theorem dX2_driverHandle_27 : decode cX2_driverHandle 27 = .ok (.iload_n 1, 1) := by decide +kernel
theorem dX2_driverHandle_28 : decode cX2_driverHandle 28 = .ok (.invokevirtual 137, 3) := by decide +kernel
theorem dX2_driverHandle_31 : decode cX2_driverHandle 31 = .ok (.istore_n 2, 1) := by decide +kernel
theorem dX2_driverHandle_32 : decode cX2_driverHandle 32 = .ok (.iconst 1, 1) := by decide +kernel
theorem dX2_driverHandle_33 : decode cX2_driverHandle 33 = .ok (.istore_n 3, 1) := by decide +kernel
theorem dX2_driverHandle_34 : decode cX2_driverHandle 34 = .ok (.iload_n 3, 1) := by decide +kernel
theorem dX2_driverHandle_35 : decode cX2_driverHandle 35 = .ok (.ifCond .lt 29, 3) := by decide +kernel
theorem dX2_driverHandle_38 : decode cX2_driverHandle 38 = .ok (.aload_n 0, 1) := by decide +kernel
theorem dX2_driverHandle_39 : decode cX2_driverHandle 39 = .ok (.getfield 27, 3) := by decide +kernel
theorem dX2_driverHandle_42 : decode cX2_driverHandle 42 = .ok (.getfield 101, 3) := by decide +kernel
theorem dX2_driverHandle_45 : decode cX2_driverHandle 45 = .ok (.aload_n 0, 1) := by decide +kernel
theorem dX2_driverHandle_46 : decode cX2_driverHandle 46 = .ok (.iconst 0, 1) := by decide +kernel
theorem dX2_driverHandle_47 : decode cX2_driverHandle 47 = .ok (.iload_n 3, 1) := by decide +kernel
theorem dX2_driverHandle_48 : decode cX2_driverHandle 48 = .ok (.invokevirtual 104, 3) := by decide +kernel
theorem dX2_driverHandle_51 : decode cX2_driverHandle 51 = .ok (.iadd, 1) := by decide +kernel
theorem dX2_driverHandle_52 : decode cX2_driverHandle 52 = .ok (.iload_n 2, 1) := by decide +kernel
theorem dX2_driverHandle_53 : decode cX2_driverHandle 53 = .ok (.if_icmp .gt 5, 3) := by decide +kernel
theorem dX2_driverHandle_56 : decode cX2_driverHandle 56 = .ok (.iload_n 3, 1) := by decide +kernel
theorem dX2_driverHandle_57 : decode cX2_driverHandle 57 = .ok (.ireturn, 1) := by decide +kernel
theorem dX2_driverHandle_58 : decode cX2_driverHandle 58 = .ok (.iinc 3 (-1), 3) := by decide +kernel
theorem dX2_driverHandle_61 : decode cX2_driverHandle 61 = .ok (.goto (-27), 3) := by decide +kernel
theorem dX2_driverHandle_64 : decode cX2_driverHandle 64 = .ok (.iconst (-1), 1) := by decide +kernel
theorem dX2_driverHandle_65 : decode cX2_driverHandle 65 = .ok (.ireturn, 1) := by decide +kernel
theorem dX2_spanFirst_0 : decode cX2_spanFirst 0 = .ok (.aload_n 0, 1) := by decide +kernel
theorem dX2_spanFirst_1 : decode cX2_spanFirst 1 = .ok (.aload_n 0, 1) := by decide +kernel
theorem dX2_spanFirst_2 : decode cX2_spanFirst 2 = .ok (.getfield 27, 3) := by decide +kernel
theorem dX2_spanFirst_5 : decode cX2_spanFirst 5 = .ok (.getfield 140, 3) := by decide +kernel
theorem dX2_spanFirst_8 : decode cX2_spanFirst 8 = .ok (.sipush 1000, 3) := by decide +kernel
theorem dX2_spanFirst_11 : decode cX2_spanFirst 11 = .ok (.idiv, 1) := by decide +kernel
theorem dX2_spanFirst_12 : decode cX2_spanFirst 12 = .ok (.invokevirtual 143, 3) := by decide +kernel
theorem dX2_spanFirst_15 : decode cX2_spanFirst 15 = .ok (.ireturn, 1) := by decide +kernel
theorem dX2_spanLast_0 : decode cX2_spanLast 0 = .ok (.aload_n 0, 1) := by decide +kernel
theorem dX2_spanLast_1 : decode cX2_spanLast 1 = .ok (.aload_n 0, 1) := by decide +kernel
theorem dX2_spanLast_2 : decode cX2_spanLast 2 = .ok (.getfield 27, 3) := by decide +kernel
theorem dX2_spanLast_5 : decode cX2_spanLast 5 = .ok (.getfield 146, 3) := by decide +kernel
theorem dX2_spanLast_8 : decode cX2_spanLast 8 = .ok (.sipush 999, 3) := by decide +kernel
theorem dX2_spanLast_11 : decode cX2_spanLast 11 = .ok (.iadd, 1) := by decide +kernel
theorem dX2_spanLast_12 : decode cX2_spanLast 12 = .ok (.sipush 1000, 3) := by decide +kernel
theorem dX2_spanLast_15 : decode cX2_spanLast 15 = .ok (.idiv, 1) := by decide +kernel
theorem dX2_spanLast_16 : decode cX2_spanLast 16 = .ok (.invokevirtual 143, 3) := by decide +kernel
theorem dX2_spanLast_19 : decode cX2_spanLast 19 = .ok (.ireturn, 1) := by decide +kernel
theorem dX2_kept_0 : decode cX2_kept 0 = .ok (.iconst 0, 1) := by decide +kernel
theorem dX2_kept_1 : decode cX2_kept 1 = .ok (.iload_n 1, 1) := by decide +kernel
theorem dX2_kept_2 : decode cX2_kept 2 = .ok (.aload_n 0, 1) := by decide +kernel
theorem dX2_kept_3 : decode cX2_kept 3 = .ok (.getfield 22, 3) := by decide +kernel
theorem dX2_kept_6 : decode cX2_kept 6 = .ok (.getfield 74, 3) := by decide +kernel
theorem dX2_kept_9 : decode cX2_kept 9 = .ok (.iconst 1, 1) := by decide +kernel
theorem dX2_kept_10 : decode cX2_kept 10 = .ok (.isub, 1) := by decide +kernel
theorem dX2_kept_11 : decode cX2_kept 11 = .ok (.invokestatic 129, 3) := by decide +kernel
theorem dX2_kept_14 : decode cX2_kept 14 = .ok (.invokestatic 149, 3) := by decide +kernel
theorem dX2_kept_17 : decode cX2_kept 17 = .ok (.ireturn, 1) := by decide +kernel
theorem dX2_seen_0 : decode cX2_seen 0 = .ok (.aload_n 0, 1) := by decide +kernel
theorem dX2_seen_1 : decode cX2_seen 1 = .ok (.getfield 31, 3) := by decide +kernel
theorem dX2_seen_4 : decode cX2_seen 4 = .ok (.aload_n 0, 1) := by decide +kernel
theorem dX2_seen_5 : decode cX2_seen 5 = .ok (.invokevirtual 134, 3) := by decide +kernel
theorem dX2_seen_8 : decode cX2_seen 8 = .ok (.aload_n 0, 1) := by decide +kernel
theorem dX2_seen_9 : decode cX2_seen 9 = .ok (.invokevirtual 126, 3) := by decide +kernel
theorem dX2_seen_12 : decode cX2_seen 12 = .ok (.invokevirtual 137, 3) := by decide +kernel
theorem dX2_seen_15 : decode cX2_seen 15 = .ok (.invokestatic 81, 3) := by decide +kernel
theorem dX2_seen_18 : decode cX2_seen 18 = .ok (.ireturn, 1) := by decide +kernel
theorem dX2_trainValue_0 : decode cX2_trainValue 0 = .ok (.iload_n 1, 1) := by decide +kernel
theorem dX2_trainValue_1 : decode cX2_trainValue 1 = .ok (.tableswitch 164 0 12 #[67, 75, 83, 94, 102, 110, 118, 123, 128, 133, 141, 149, 156], 67) := by decide +kernel
theorem dX2_trainValue_68 : decode cX2_trainValue 68 = .ok (.aload_n 0, 1) := by decide +kernel
theorem dX2_trainValue_69 : decode cX2_trainValue 69 = .ok (.getfield 27, 3) := by decide +kernel
theorem dX2_trainValue_72 : decode cX2_trainValue 72 = .ok (.getfield 108, 3) := by decide +kernel
theorem dX2_trainValue_75 : decode cX2_trainValue 75 = .ok (.ireturn, 1) := by decide +kernel
theorem dX2_trainValue_76 : decode cX2_trainValue 76 = .ok (.aload_n 0, 1) := by decide +kernel
theorem dX2_trainValue_77 : decode cX2_trainValue 77 = .ok (.getfield 27, 3) := by decide +kernel
theorem dX2_trainValue_80 : decode cX2_trainValue 80 = .ok (.getfield 101, 3) := by decide +kernel
theorem dX2_trainValue_83 : decode cX2_trainValue 83 = .ok (.ireturn, 1) := by decide +kernel
theorem dX2_trainValue_84 : decode cX2_trainValue 84 = .ok (.aload_n 0, 1) := by decide +kernel
theorem dX2_trainValue_85 : decode cX2_trainValue 85 = .ok (.getfield 27, 3) := by decide +kernel
theorem dX2_trainValue_88 : decode cX2_trainValue 88 = .ok (.getfield 101, 3) := by decide +kernel
theorem dX2_trainValue_91 : decode cX2_trainValue 91 = .ok (.invokestatic 81, 3) := by decide +kernel
theorem dX2_trainValue_94 : decode cX2_trainValue 94 = .ok (.ireturn, 1) := by decide +kernel
theorem dX2_trainValue_95 : decode cX2_trainValue 95 = .ok (.aload_n 0, 1) := by decide +kernel
theorem dX2_trainValue_96 : decode cX2_trainValue 96 = .ok (.getfield 27, 3) := by decide +kernel
theorem dX2_trainValue_99 : decode cX2_trainValue 99 = .ok (.getfield 91, 3) := by decide +kernel
theorem dX2_trainValue_102 : decode cX2_trainValue 102 = .ok (.ireturn, 1) := by decide +kernel
theorem dX2_trainValue_103 : decode cX2_trainValue 103 = .ok (.aload_n 0, 1) := by decide +kernel
theorem dX2_trainValue_104 : decode cX2_trainValue 104 = .ok (.getfield 27, 3) := by decide +kernel
theorem dX2_trainValue_107 : decode cX2_trainValue 107 = .ok (.getfield 140, 3) := by decide +kernel
theorem dX2_trainValue_110 : decode cX2_trainValue 110 = .ok (.ireturn, 1) := by decide +kernel
theorem dX2_trainValue_111 : decode cX2_trainValue 111 = .ok (.aload_n 0, 1) := by decide +kernel
theorem dX2_trainValue_112 : decode cX2_trainValue 112 = .ok (.getfield 27, 3) := by decide +kernel
theorem dX2_trainValue_115 : decode cX2_trainValue 115 = .ok (.getfield 146, 3) := by decide +kernel
theorem dX2_trainValue_118 : decode cX2_trainValue 118 = .ok (.ireturn, 1) := by decide +kernel
theorem dX2_trainValue_119 : decode cX2_trainValue 119 = .ok (.aload_n 0, 1) := by decide +kernel
theorem dX2_trainValue_120 : decode cX2_trainValue 120 = .ok (.invokevirtual 134, 3) := by decide +kernel
theorem dX2_trainValue_123 : decode cX2_trainValue 123 = .ok (.ireturn, 1) := by decide +kernel
theorem dX2_trainValue_124 : decode cX2_trainValue 124 = .ok (.aload_n 0, 1) := by decide +kernel
theorem dX2_trainValue_125 : decode cX2_trainValue 125 = .ok (.invokevirtual 126, 3) := by decide +kernel
theorem dX2_trainValue_128 : decode cX2_trainValue 128 = .ok (.ireturn, 1) := by decide +kernel
theorem dX2_trainValue_129 : decode cX2_trainValue 129 = .ok (.aload_n 0, 1) := by decide +kernel
theorem dX2_trainValue_130 : decode cX2_trainValue 130 = .ok (.invokevirtual 120, 3) := by decide +kernel
theorem dX2_trainValue_133 : decode cX2_trainValue 133 = .ok (.ireturn, 1) := by decide +kernel
theorem dX2_trainValue_134 : decode cX2_trainValue 134 = .ok (.aload_n 0, 1) := by decide +kernel
theorem dX2_trainValue_135 : decode cX2_trainValue 135 = .ok (.getfield 27, 3) := by decide +kernel
theorem dX2_trainValue_138 : decode cX2_trainValue 138 = .ok (.getfield 123, 3) := by decide +kernel
theorem dX2_trainValue_141 : decode cX2_trainValue 141 = .ok (.ireturn, 1) := by decide +kernel
theorem dX2_trainValue_142 : decode cX2_trainValue 142 = .ok (.aload_n 0, 1) := by decide +kernel
theorem dX2_trainValue_143 : decode cX2_trainValue 143 = .ok (.getfield 27, 3) := by decide +kernel
theorem dX2_trainValue_146 : decode cX2_trainValue 146 = .ok (.getfield 114, 3) := by decide +kernel
theorem dX2_trainValue_149 : decode cX2_trainValue 149 = .ok (.ireturn, 1) := by decide +kernel
theorem dX2_trainValue_150 : decode cX2_trainValue 150 = .ok (.aload_n 0, 1) := by decide +kernel
theorem dX2_trainValue_151 : decode cX2_trainValue 151 = .ok (.invokevirtual 97, 3) := by decide +kernel
theorem dX2_trainValue_154 : decode cX2_trainValue 154 = .ok (.iconst 1, 1) := by decide +kernel
theorem dX2_trainValue_155 : decode cX2_trainValue 155 = .ok (.iadd, 1) := by decide +kernel
theorem dX2_trainValue_156 : decode cX2_trainValue 156 = .ok (.ireturn, 1) := by decide +kernel
theorem dX2_trainValue_157 : decode cX2_trainValue 157 = .ok (.aload_n 0, 1) := by decide +kernel
theorem dX2_trainValue_158 : decode cX2_trainValue 158 = .ok (.getfield 27, 3) := by decide +kernel
theorem dX2_trainValue_161 : decode cX2_trainValue 161 = .ok (.getfield 152, 3) := by decide +kernel
theorem dX2_trainValue_164 : decode cX2_trainValue 164 = .ok (.ireturn, 1) := by decide +kernel
theorem dX2_trainValue_165 : decode cX2_trainValue 165 = .ok (.bipush (-2), 2) := by decide +kernel
theorem dX2_trainValue_167 : decode cX2_trainValue 167 = .ok (.ireturn, 1) := by decide +kernel
theorem dX3_init_0 : decode cX3_init 0 = .ok (.aload_n 0, 1) := by decide +kernel
theorem dX3_init_1 : decode cX3_init 1 = .ok (.invokespecial 5, 3) := by decide +kernel
theorem dX3_init_4 : decode cX3_init 4 = .ok (.aload_n 0, 1) := by decide +kernel
theorem dX3_init_5 : decode cX3_init 5 = .ok (.bipush 120, 2) := by decide +kernel
theorem dX3_init_7 : decode cX3_init 7 = .ok (.newarray .int, 2) := by decide +kernel
theorem dX3_init_9 : decode cX3_init 9 = .ok (.putfield 11, 3) := by decide +kernel
theorem dX3_init_12 : decode cX3_init 12 = .ok (.aload_n 0, 1) := by decide +kernel
theorem dX3_init_13 : decode cX3_init 13 = .ok (.bipush 24, 2) := by decide +kernel
theorem dX3_init_15 : decode cX3_init 15 = .ok (.newarray .int, 2) := by decide +kernel
theorem dX3_init_17 : decode cX3_init 17 = .ok (.putfield 15, 3) := by decide +kernel
theorem dX3_init_20 : decode cX3_init 20 = .ok (.aload_n 0, 1) := by decide +kernel
theorem dX3_init_21 : decode cX3_init 21 = .ok (.bipush 72, 2) := by decide +kernel
theorem dX3_init_23 : decode cX3_init 23 = .ok (.newarray .int, 2) := by decide +kernel
theorem dX3_init_25 : decode cX3_init 25 = .ok (.putfield 18, 3) := by decide +kernel
theorem dX3_init_28 : decode cX3_init 28 = .ok (.return_, 1) := by decide +kernel
theorem dX3_adds_0 : decode cX3_adds 0 = .ok (.iload_n 1, 1) := by decide +kernel
theorem dX3_adds_1 : decode cX3_adds 1 = .ok (.iconst 0, 1) := by decide +kernel
theorem dX3_adds_2 : decode cX3_adds 2 = .ok (.bipush 127, 2) := by decide +kernel
theorem dX3_adds_4 : decode cX3_adds 4 = .ok (.invokestatic 21, 3) := by decide +kernel
theorem dX3_adds_7 : decode cX3_adds 7 = .ok (.ifCond .ne 6, 3) := by decide +kernel
theorem dX3_adds_10 : decode cX3_adds 10 = .ok (.bipush (-2), 2) := by decide +kernel
theorem dX3_adds_12 : decode cX3_adds 12 = .ok (.ireturn, 1) := by decide +kernel
theorem dX3_adds_13 : decode cX3_adds 13 = .ok (.aload_n 0, 1) := by decide +kernel
theorem dX3_adds_14 : decode cX3_adds 14 = .ok (.getfield 25, 3) := by decide +kernel
theorem dX3_adds_17 : decode cX3_adds 17 = .ok (.bipush 120, 2) := by decide +kernel
theorem dX3_adds_19 : decode cX3_adds 19 = .ok (.if_icmp .lt 6, 3) := by decide +kernel
theorem dX3_adds_22 : decode cX3_adds 22 = .ok (.bipush (-4), 2) := by decide +kernel
theorem dX3_adds_24 : decode cX3_adds 24 = .ok (.ireturn, 1) := by decide +kernel
theorem dX3_adds_25 : decode cX3_adds 25 = .ok (.aload_n 0, 1) := by decide +kernel
theorem dX3_adds_26 : decode cX3_adds 26 = .ok (.getfield 11, 3) := by decide +kernel
theorem dX3_adds_29 : decode cX3_adds 29 = .ok (.aload_n 0, 1) := by decide +kernel
theorem dX3_adds_30 : decode cX3_adds 30 = .ok (.getfield 25, 3) := by decide +kernel
theorem dX3_adds_33 : decode cX3_adds 33 = .ok (.iload_n 1, 1) := by decide +kernel
theorem dX3_adds_34 : decode cX3_adds 34 = .ok (.iastore, 1) := by decide +kernel
theorem dX3_adds_35 : decode cX3_adds 35 = .ok (.aload_n 0, 1) := by decide +kernel
theorem dX3_adds_36 : decode cX3_adds 36 = .ok (.dup, 1) := by decide +kernel
theorem dX3_adds_37 : decode cX3_adds 37 = .ok (.getfield 25, 3) := by decide +kernel
theorem dX3_adds_40 : decode cX3_adds 40 = .ok (.iconst 1, 1) := by decide +kernel
theorem dX3_adds_41 : decode cX3_adds 41 = .ok (.iadd, 1) := by decide +kernel
theorem dX3_adds_42 : decode cX3_adds 42 = .ok (.putfield 25, 3) := by decide +kernel
theorem dX3_adds_45 : decode cX3_adds 45 = .ok (.aload_n 0, 1) := by decide +kernel
theorem dX3_adds_46 : decode cX3_adds 46 = .ok (.getfield 25, 3) := by decide +kernel
theorem dX3_adds_49 : decode cX3_adds 49 = .ok (.ireturn, 1) := by decide +kernel
theorem dX3_empties_0 : decode cX3_empties 0 = .ok (.aload_n 0, 1) := by decide +kernel
theorem dX3_empties_1 : decode cX3_empties 1 = .ok (.getfield 25, 3) := by decide +kernel
theorem dX3_empties_4 : decode cX3_empties 4 = .ok (.istore_n 1, 1) := by decide +kernel
theorem dX3_empties_5 : decode cX3_empties 5 = .ok (.aload_n 0, 1) := by decide +kernel
theorem dX3_empties_6 : decode cX3_empties 6 = .ok (.iconst 0, 1) := by decide +kernel
theorem dX3_empties_7 : decode cX3_empties 7 = .ok (.putfield 25, 3) := by decide +kernel
theorem dX3_empties_10 : decode cX3_empties 10 = .ok (.iload_n 1, 1) := by decide +kernel
theorem dX3_empties_11 : decode cX3_empties 11 = .ok (.ireturn, 1) := by decide +kernel
theorem dX3_number_0 : decode cX3_number 0 = .ok (.aload_n 0, 1) := by decide +kernel
theorem dX3_number_1 : decode cX3_number 1 = .ok (.getfield 18, 3) := by decide +kernel
theorem dX3_number_4 : decode cX3_number 4 = .ok (.iload_n 1, 1) := by decide +kernel
theorem dX3_number_5 : decode cX3_number 5 = .ok (.iconst 3, 1) := by decide +kernel
theorem dX3_number_6 : decode cX3_number 6 = .ok (.imul, 1) := by decide +kernel
theorem dX3_number_7 : decode cX3_number 7 = .ok (.iload_n 2, 1) := by decide +kernel
theorem dX3_number_8 : decode cX3_number 8 = .ok (.iadd, 1) := by decide +kernel
theorem dX3_number_9 : decode cX3_number 9 = .ok (.iaload, 1) := by decide +kernel
theorem dX3_number_10 : decode cX3_number 10 = .ok (.ireturn, 1) := by decide +kernel
theorem dX3_isReadable_0 : decode cX3_isReadable 0 = .ok (.aload_n 0, 1) := by decide +kernel
theorem dX3_isReadable_1 : decode cX3_isReadable 1 = .ok (.iconst 0, 1) := by decide +kernel
theorem dX3_isReadable_2 : decode cX3_isReadable 2 = .ok (.putfield 29, 3) := by decide +kernel
theorem dX3_isReadable_5 : decode cX3_isReadable 5 = .ok (.iconst 0, 1) := by decide +kernel
theorem dX3_isReadable_6 : decode cX3_isReadable 6 = .ok (.istore_n 1, 1) := by decide +kernel
theorem dX3_isReadable_7 : decode cX3_isReadable 7 = .ok (.iload_n 1, 1) := by decide +kernel
theorem dX3_isReadable_8 : decode cX3_isReadable 8 = .ok (.bipush 24, 2) := by decide +kernel
theorem dX3_isReadable_10 : decode cX3_isReadable 10 = .ok (.if_icmp .ge 43, 3) := by decide +kernel
theorem dX3_isReadable_13 : decode cX3_isReadable 13 = .ok (.aload_n 0, 1) := by decide +kernel
theorem dX3_isReadable_14 : decode cX3_isReadable 14 = .ok (.iload_n 1, 1) := by decide +kernel
theorem dX3_isReadable_15 : decode cX3_isReadable 15 = .ok (.invokevirtual 32, 3) := by decide +kernel
theorem dX3_isReadable_18 : decode cX3_isReadable 18 = .ok (.ifCond .ne 5, 3) := by decide +kernel
theorem dX3_isReadable_21 : decode cX3_isReadable 21 = .ok (.iconst 0, 1) := by decide +kernel
theorem dX3_isReadable_22 : decode cX3_isReadable 22 = .ok (.ireturn, 1) := by decide +kernel
theorem dX3_isReadable_23 : decode cX3_isReadable 23 = .ok (.aload_n 0, 1) := by decide +kernel
theorem dX3_isReadable_24 : decode cX3_isReadable 24 = .ok (.iload_n 1, 1) := by decide +kernel
theorem dX3_isReadable_25 : decode cX3_isReadable 25 = .ok (.iconst 1, 1) := by decide +kernel
theorem dX3_isReadable_26 : decode cX3_isReadable 26 = .ok (.iadd, 1) := by decide +kernel
theorem dX3_isReadable_27 : decode cX3_isReadable 27 = .ok (.putfield 36, 3) := by decide +kernel
theorem dX3_isReadable_30 : decode cX3_isReadable 30 = .ok (.aload_n 0, 1) := by decide +kernel
theorem dX3_isReadable_31 : decode cX3_isReadable 31 = .ok (.invokevirtual 39, 3) := by decide +kernel
theorem dX3_isReadable_34 : decode cX3_isReadable 34 = .ok (.aload_n 0, 1) := by decide +kernel
theorem dX3_isReadable_35 : decode cX3_isReadable 35 = .ok (.getfield 29, 3) := by decide +kernel
theorem dX3_isReadable_38 : decode cX3_isReadable 38 = .ok (.aload_n 0, 1) := by decide +kernel
theorem dX3_isReadable_39 : decode cX3_isReadable 39 = .ok (.getfield 25, 3) := by decide +kernel
theorem dX3_isReadable_42 : decode cX3_isReadable 42 = .ok (.if_icmp .lt 5, 3) := by decide +kernel
theorem dX3_isReadable_45 : decode cX3_isReadable 45 = .ok (.iconst 1, 1) := by decide +kernel
theorem dX3_isReadable_46 : decode cX3_isReadable 46 = .ok (.ireturn, 1) := by decide +kernel
theorem dX3_isReadable_47 : decode cX3_isReadable 47 = .ok (.iinc 1 1, 3) := by decide +kernel
theorem dX3_isReadable_50 : decode cX3_isReadable 50 = .ok (.goto (-43), 3) := by decide +kernel
theorem dX3_isReadable_53 : decode cX3_isReadable 53 = .ok (.aload_n 0, 1) := by decide +kernel
theorem dX3_isReadable_54 : decode cX3_isReadable 54 = .ok (.iconst 2, 1) := by decide +kernel
theorem dX3_isReadable_55 : decode cX3_isReadable 55 = .ok (.aload_n 0, 1) := by decide +kernel
theorem dX3_isReadable_56 : decode cX3_isReadable 56 = .ok (.getfield 29, 3) := by decide +kernel
theorem dX3_isReadable_59 : decode cX3_isReadable 59 = .ok (.invokevirtual 42, 3) := by decide +kernel
theorem dX3_isReadable_62 : decode cX3_isReadable 62 = .ok (.ireturn, 1) := by decide +kernel
theorem dX3_readsOrder_0 : decode cX3_readsOrder 0 = .ok (.aload_n 0, 1) := by decide +kernel
theorem dX3_readsOrder_1 : decode cX3_readsOrder 1 = .ok (.invokevirtual 39, 3) := by decide +kernel
theorem dX3_readsOrder_4 : decode cX3_readsOrder 4 = .ok (.aload_n 0, 1) := by decide +kernel
theorem dX3_readsOrder_5 : decode cX3_readsOrder 5 = .ok (.getfield 29, 3) := by decide +kernel
theorem dX3_readsOrder_8 : decode cX3_readsOrder 8 = .ok (.istore_n 2, 1) := by decide +kernel
theorem dX3_readsOrder_9 : decode cX3_readsOrder 9 = .ok (.aload_n 0, 1) := by decide +kernel
theorem dX3_readsOrder_10 : decode cX3_readsOrder 10 = .ok (.invokevirtual 46, 3) := by decide +kernel
theorem dX3_readsOrder_13 : decode cX3_readsOrder 13 = .ok (.aload_n 0, 1) := by decide +kernel
theorem dX3_readsOrder_14 : decode cX3_readsOrder 14 = .ok (.getfield 29, 3) := by decide +kernel
theorem dX3_readsOrder_17 : decode cX3_readsOrder 17 = .ok (.iload_n 2, 1) := by decide +kernel
theorem dX3_readsOrder_18 : decode cX3_readsOrder 18 = .ok (.if_icmp .ne 13, 3) := by decide +kernel
theorem dX3_readsOrder_21 : decode cX3_readsOrder 21 = .ok (.aload_n 0, 1) := by decide +kernel
theorem dX3_readsOrder_22 : decode cX3_readsOrder 22 = .ok (.iconst 2, 1) := by decide +kernel
theorem dX3_readsOrder_23 : decode cX3_readsOrder 23 = .ok (.aload_n 0, 1) := by decide +kernel
theorem dX3_readsOrder_24 : decode cX3_readsOrder 24 = .ok (.getfield 29, 3) := by decide +kernel
theorem dX3_readsOrder_27 : decode cX3_readsOrder 27 = .ok (.invokevirtual 42, 3) := by decide +kernel
theorem dX3_readsOrder_30 : decode cX3_readsOrder 30 = .ok (.ireturn, 1) := by decide +kernel
theorem dX3_readsOrder_31 : decode cX3_readsOrder 31 = .ok (.aload_n 0, 1) := by decide +kernel
theorem dX3_readsOrder_32 : decode cX3_readsOrder 32 = .ok (.iload_n 2, 1) := by decide +kernel
theorem dX3_readsOrder_33 : decode cX3_readsOrder 33 = .ok (.aload_n 0, 1) := by decide +kernel
theorem dX3_readsOrder_34 : decode cX3_readsOrder 34 = .ok (.getfield 29, 3) := by decide +kernel
theorem dX3_readsOrder_37 : decode cX3_readsOrder 37 = .ok (.invokevirtual 49, 3) := by decide +kernel
theorem dX3_readsOrder_40 : decode cX3_readsOrder 40 = .ok (.istore_n 3, 1) := by decide +kernel
theorem dX3_readsOrder_41 : decode cX3_readsOrder 41 = .ok (.iload_n 3, 1) := by decide +kernel
theorem dX3_readsOrder_42 : decode cX3_readsOrder 42 = .ok (.iconst (-1), 1) := by decide +kernel
theorem dX3_readsOrder_43 : decode cX3_readsOrder 43 = .ok (.if_icmp .ne 10, 3) := by decide +kernel
theorem dX3_readsOrder_46 : decode cX3_readsOrder 46 = .ok (.aload_n 0, 1) := by decide +kernel
theorem dX3_readsOrder_47 : decode cX3_readsOrder 47 = .ok (.iconst 1, 1) := by decide +kernel
theorem dX3_readsOrder_48 : decode cX3_readsOrder 48 = .ok (.iload_n 2, 1) := by decide +kernel
theorem dX3_readsOrder_49 : decode cX3_readsOrder 49 = .ok (.invokevirtual 42, 3) := by decide +kernel
theorem dX3_readsOrder_52 : decode cX3_readsOrder 52 = .ok (.ireturn, 1) := by decide +kernel
theorem dX3_readsOrder_53 : decode cX3_readsOrder 53 = .ok (.aload_n 0, 1) := by decide +kernel
theorem dX3_readsOrder_54 : decode cX3_readsOrder 54 = .ok (.getfield 15, 3) := by decide +kernel
theorem dX3_readsOrder_57 : decode cX3_readsOrder 57 = .ok (.iload_n 1, 1) := by decide +kernel
theorem dX3_readsOrder_58 : decode cX3_readsOrder 58 = .ok (.iload_n 3, 1) := by decide +kernel
theorem dX3_readsOrder_59 : decode cX3_readsOrder 59 = .ok (.iastore, 1) := by decide +kernel
theorem dX3_readsOrder_60 : decode cX3_readsOrder 60 = .ok (.iload_n 3, 1) := by decide +kernel
theorem dX3_readsOrder_61 : decode cX3_readsOrder 61 = .ok (.iconst 1, 1) := by decide +kernel
theorem dX3_readsOrder_62 : decode cX3_readsOrder 62 = .ok (.if_icmp .eq 8, 3) := by decide +kernel
theorem dX3_readsOrder_65 : decode cX3_readsOrder 65 = .ok (.iload_n 3, 1) := by decide +kernel
theorem dX3_readsOrder_66 : decode cX3_readsOrder 66 = .ok (.iconst 2, 1) := by decide +kernel
theorem dX3_readsOrder_67 : decode cX3_readsOrder 67 = .ok (.if_icmp .ne 7, 3) := by decide +kernel
theorem dX3_readsOrder_70 : decode cX3_readsOrder 70 = .ok (.iconst 3, 1) := by decide +kernel
theorem dX3_readsOrder_71 : decode cX3_readsOrder 71 = .ok (.goto 4, 3) := by decide +kernel
theorem dX3_readsOrder_74 : decode cX3_readsOrder 74 = .ok (.iconst 1, 1) := by decide +kernel
theorem dX3_readsOrder_75 : decode cX3_readsOrder 75 = .ok (.istore 4, 2) := by decide +kernel
theorem dX3_readsOrder_77 : decode cX3_readsOrder 77 = .ok (.iconst 0, 1) := by decide +kernel
theorem dX3_readsOrder_78 : decode cX3_readsOrder 78 = .ok (.istore 5, 2) := by decide +kernel
theorem dX3_readsOrder_80 : decode cX3_readsOrder 80 = .ok (.iload 5, 2) := by decide +kernel
theorem dX3_readsOrder_82 : decode cX3_readsOrder 82 = .ok (.iload 4, 2) := by decide +kernel
theorem dX3_readsOrder_84 : decode cX3_readsOrder 84 = .ok (.if_icmp .ge 44, 3) := by decide +kernel
theorem dX3_readsOrder_87 : decode cX3_readsOrder 87 = .ok (.iload_n 3, 1) := by decide +kernel
theorem dX3_readsOrder_88 : decode cX3_readsOrder 88 = .ok (.iconst 2, 1) := by decide +kernel
theorem dX3_readsOrder_89 : decode cX3_readsOrder 89 = .ok (.if_icmp .ne 13, 3) := by decide +kernel
theorem dX3_readsOrder_92 : decode cX3_readsOrder 92 = .ok (.iload 5, 2) := by decide +kernel
theorem dX3_readsOrder_94 : decode cX3_readsOrder 94 = .ok (.iconst 2, 1) := by decide +kernel
theorem dX3_readsOrder_95 : decode cX3_readsOrder 95 = .ok (.if_icmp .ne 7, 3) := by decide +kernel
theorem dX3_readsOrder_98 : decode cX3_readsOrder 98 = .ok (.iconst 1, 1) := by decide +kernel
theorem dX3_readsOrder_99 : decode cX3_readsOrder 99 = .ok (.goto 4, 3) := by decide +kernel
theorem dX3_readsOrder_102 : decode cX3_readsOrder 102 = .ok (.iconst 0, 1) := by decide +kernel
theorem dX3_readsOrder_103 : decode cX3_readsOrder 103 = .ok (.istore 6, 2) := by decide +kernel
theorem dX3_readsOrder_105 : decode cX3_readsOrder 105 = .ok (.aload_n 0, 1) := by decide +kernel
theorem dX3_readsOrder_106 : decode cX3_readsOrder 106 = .ok (.iload_n 1, 1) := by decide +kernel
theorem dX3_readsOrder_107 : decode cX3_readsOrder 107 = .ok (.iconst 3, 1) := by decide +kernel
theorem dX3_readsOrder_108 : decode cX3_readsOrder 108 = .ok (.imul, 1) := by decide +kernel
theorem dX3_readsOrder_109 : decode cX3_readsOrder 109 = .ok (.iload 5, 2) := by decide +kernel
theorem dX3_readsOrder_111 : decode cX3_readsOrder 111 = .ok (.iadd, 1) := by decide +kernel
theorem dX3_readsOrder_112 : decode cX3_readsOrder 112 = .ok (.iload 6, 2) := by decide +kernel
theorem dX3_readsOrder_114 : decode cX3_readsOrder 114 = .ok (.invokevirtual 53, 3) := by decide +kernel
theorem dX3_readsOrder_117 : decode cX3_readsOrder 117 = .ok (.ifCond .ne 5, 3) := by decide +kernel
theorem dX3_readsOrder_120 : decode cX3_readsOrder 120 = .ok (.iconst 0, 1) := by decide +kernel
theorem dX3_readsOrder_121 : decode cX3_readsOrder 121 = .ok (.ireturn, 1) := by decide +kernel
theorem dX3_readsOrder_122 : decode cX3_readsOrder 122 = .ok (.iinc 5 1, 3) := by decide +kernel
theorem dX3_readsOrder_125 : decode cX3_readsOrder 125 = .ok (.goto (-45), 3) := by decide +kernel
theorem dX3_readsOrder_128 : decode cX3_readsOrder 128 = .ok (.aload_n 0, 1) := by decide +kernel
theorem dX3_readsOrder_129 : decode cX3_readsOrder 129 = .ok (.invokevirtual 39, 3) := by decide +kernel
theorem dX3_readsOrder_132 : decode cX3_readsOrder 132 = .ok (.aload_n 0, 1) := by decide +kernel
theorem dX3_readsOrder_133 : decode cX3_readsOrder 133 = .ok (.bipush 59, 2) := by decide +kernel
theorem dX3_readsOrder_135 : decode cX3_readsOrder 135 = .ok (.invokevirtual 57, 3) := by decide +kernel
theorem dX3_readsOrder_138 : decode cX3_readsOrder 138 = .ok (.ifCond .ne 13, 3) := by decide +kernel
theorem dX3_readsOrder_141 : decode cX3_readsOrder 141 = .ok (.aload_n 0, 1) := by decide +kernel
theorem dX3_readsOrder_142 : decode cX3_readsOrder 142 = .ok (.iconst 2, 1) := by decide +kernel
theorem dX3_readsOrder_143 : decode cX3_readsOrder 143 = .ok (.aload_n 0, 1) := by decide +kernel
theorem dX3_readsOrder_144 : decode cX3_readsOrder 144 = .ok (.getfield 29, 3) := by decide +kernel
theorem dX3_readsOrder_147 : decode cX3_readsOrder 147 = .ok (.invokevirtual 42, 3) := by decide +kernel
theorem dX3_readsOrder_150 : decode cX3_readsOrder 150 = .ok (.ireturn, 1) := by decide +kernel
theorem dX3_readsOrder_151 : decode cX3_readsOrder 151 = .ok (.aload_n 0, 1) := by decide +kernel
theorem dX3_readsOrder_152 : decode cX3_readsOrder 152 = .ok (.dup, 1) := by decide +kernel
theorem dX3_readsOrder_153 : decode cX3_readsOrder 153 = .ok (.getfield 29, 3) := by decide +kernel
theorem dX3_readsOrder_156 : decode cX3_readsOrder 156 = .ok (.iconst 1, 1) := by decide +kernel
theorem dX3_readsOrder_157 : decode cX3_readsOrder 157 = .ok (.iadd, 1) := by decide +kernel
theorem dX3_readsOrder_158 : decode cX3_readsOrder 158 = .ok (.putfield 29, 3) := by decide +kernel
theorem dX3_readsOrder_161 : decode cX3_readsOrder 161 = .ok (.iconst 1, 1) := by decide +kernel
theorem dX3_readsOrder_162 : decode cX3_readsOrder 162 = .ok (.ireturn, 1) := by decide +kernel
theorem dX3_readsNumber_0 : decode cX3_readsNumber 0 = .ok (.aload_n 0, 1) := by decide +kernel
theorem dX3_readsNumber_1 : decode cX3_readsNumber 1 = .ok (.invokevirtual 39, 3) := by decide +kernel
theorem dX3_readsNumber_4 : decode cX3_readsNumber 4 = .ok (.iload_n 2, 1) := by decide +kernel
theorem dX3_readsNumber_5 : decode cX3_readsNumber 5 = .ok (.ifCond .eq 16, 3) := by decide +kernel
theorem dX3_readsNumber_8 : decode cX3_readsNumber 8 = .ok (.aload_n 0, 1) := by decide +kernel
theorem dX3_readsNumber_9 : decode cX3_readsNumber 9 = .ok (.bipush 45, 2) := by decide +kernel
theorem dX3_readsNumber_11 : decode cX3_readsNumber 11 = .ok (.invokevirtual 57, 3) := by decide +kernel
theorem dX3_readsNumber_14 : decode cX3_readsNumber 14 = .ok (.ifCond .eq 7, 3) := by decide +kernel
theorem dX3_readsNumber_17 : decode cX3_readsNumber 17 = .ok (.iconst 1, 1) := by decide +kernel
theorem dX3_readsNumber_18 : decode cX3_readsNumber 18 = .ok (.goto 4, 3) := by decide +kernel
theorem dX3_readsNumber_21 : decode cX3_readsNumber 21 = .ok (.iconst 0, 1) := by decide +kernel
theorem dX3_readsNumber_22 : decode cX3_readsNumber 22 = .ok (.istore_n 3, 1) := by decide +kernel
theorem dX3_readsNumber_23 : decode cX3_readsNumber 23 = .ok (.iload_n 3, 1) := by decide +kernel
theorem dX3_readsNumber_24 : decode cX3_readsNumber 24 = .ok (.ifCond .eq 13, 3) := by decide +kernel
theorem dX3_readsNumber_27 : decode cX3_readsNumber 27 = .ok (.aload_n 0, 1) := by decide +kernel
theorem dX3_readsNumber_28 : decode cX3_readsNumber 28 = .ok (.dup, 1) := by decide +kernel
theorem dX3_readsNumber_29 : decode cX3_readsNumber 29 = .ok (.getfield 29, 3) := by decide +kernel
theorem dX3_readsNumber_32 : decode cX3_readsNumber 32 = .ok (.iconst 1, 1) := by decide +kernel
theorem dX3_readsNumber_33 : decode cX3_readsNumber 33 = .ok (.iadd, 1) := by decide +kernel
theorem dX3_readsNumber_34 : decode cX3_readsNumber 34 = .ok (.putfield 29, 3) := by decide +kernel
theorem dX3_readsNumber_37 : decode cX3_readsNumber 37 = .ok (.iconst 0, 1) := by decide +kernel
theorem dX3_readsNumber_38 : decode cX3_readsNumber 38 = .ok (.istore 4, 2) := by decide +kernel
theorem dX3_readsNumber_40 : decode cX3_readsNumber 40 = .ok (.iconst 0, 1) := by decide +kernel
theorem dX3_readsNumber_41 : decode cX3_readsNumber 41 = .ok (.istore 5, 2) := by decide +kernel
theorem dX3_readsNumber_43 : decode cX3_readsNumber 43 = .ok (.iload 5, 2) := by decide +kernel
theorem dX3_readsNumber_45 : decode cX3_readsNumber 45 = .ok (.iconst 3, 1) := by decide +kernel
theorem dX3_readsNumber_46 : decode cX3_readsNumber 46 = .ok (.if_icmp .ge 46, 3) := by decide +kernel
theorem dX3_readsNumber_49 : decode cX3_readsNumber 49 = .ok (.aload_n 0, 1) := by decide +kernel
theorem dX3_readsNumber_50 : decode cX3_readsNumber 50 = .ok (.invokevirtual 60, 3) := by decide +kernel
theorem dX3_readsNumber_53 : decode cX3_readsNumber 53 = .ok (.ifCond .eq 39, 3) := by decide +kernel
theorem dX3_readsNumber_56 : decode cX3_readsNumber 56 = .ok (.bipush 10, 2) := by decide +kernel
theorem dX3_readsNumber_58 : decode cX3_readsNumber 58 = .ok (.iload 4, 2) := by decide +kernel
theorem dX3_readsNumber_60 : decode cX3_readsNumber 60 = .ok (.imul, 1) := by decide +kernel
theorem dX3_readsNumber_61 : decode cX3_readsNumber 61 = .ok (.aload_n 0, 1) := by decide +kernel
theorem dX3_readsNumber_62 : decode cX3_readsNumber 62 = .ok (.getfield 11, 3) := by decide +kernel
theorem dX3_readsNumber_65 : decode cX3_readsNumber 65 = .ok (.aload_n 0, 1) := by decide +kernel
theorem dX3_readsNumber_66 : decode cX3_readsNumber 66 = .ok (.getfield 29, 3) := by decide +kernel
theorem dX3_readsNumber_69 : decode cX3_readsNumber 69 = .ok (.iaload, 1) := by decide +kernel
theorem dX3_readsNumber_70 : decode cX3_readsNumber 70 = .ok (.iadd, 1) := by decide +kernel
theorem dX3_readsNumber_71 : decode cX3_readsNumber 71 = .ok (.bipush 48, 2) := by decide +kernel
theorem dX3_readsNumber_73 : decode cX3_readsNumber 73 = .ok (.isub, 1) := by decide +kernel
theorem dX3_readsNumber_74 : decode cX3_readsNumber 74 = .ok (.istore 4, 2) := by decide +kernel
theorem dX3_readsNumber_76 : decode cX3_readsNumber 76 = .ok (.aload_n 0, 1) := by decide +kernel
theorem dX3_readsNumber_77 : decode cX3_readsNumber 77 = .ok (.dup, 1) := by decide +kernel
theorem dX3_readsNumber_78 : decode cX3_readsNumber 78 = .ok (.getfield 29, 3) := by decide +kernel
theorem dX3_readsNumber_81 : decode cX3_readsNumber 81 = .ok (.iconst 1, 1) := by decide +kernel
theorem dX3_readsNumber_82 : decode cX3_readsNumber 82 = .ok (.iadd, 1) := by decide +kernel
theorem dX3_readsNumber_83 : decode cX3_readsNumber 83 = .ok (.putfield 29, 3) := by decide +kernel
theorem dX3_readsNumber_86 : decode cX3_readsNumber 86 = .ok (.iinc 5 1, 3) := by decide +kernel
theorem dX3_readsNumber_89 : decode cX3_readsNumber 89 = .ok (.goto (-46), 3) := by decide +kernel
theorem dX3_readsNumber_92 : decode cX3_readsNumber 92 = .ok (.iload 5, 2) := by decide +kernel
theorem dX3_readsNumber_94 : decode cX3_readsNumber 94 = .ok (.ifCond .eq 10, 3) := by decide +kernel
theorem dX3_readsNumber_97 : decode cX3_readsNumber 97 = .ok (.aload_n 0, 1) := by decide +kernel
theorem dX3_readsNumber_98 : decode cX3_readsNumber 98 = .ok (.invokevirtual 60, 3) := by decide +kernel
theorem dX3_readsNumber_101 : decode cX3_readsNumber 101 = .ok (.ifCond .eq 13, 3) := by decide +kernel
theorem dX3_readsNumber_104 : decode cX3_readsNumber 104 = .ok (.aload_n 0, 1) := by decide +kernel
theorem dX3_readsNumber_105 : decode cX3_readsNumber 105 = .ok (.iconst 2, 1) := by decide +kernel
theorem dX3_readsNumber_106 : decode cX3_readsNumber 106 = .ok (.aload_n 0, 1) := by decide +kernel
theorem dX3_readsNumber_107 : decode cX3_readsNumber 107 = .ok (.getfield 29, 3) := by decide +kernel
theorem dX3_readsNumber_110 : decode cX3_readsNumber 110 = .ok (.invokevirtual 42, 3) := by decide +kernel
theorem dX3_readsNumber_113 : decode cX3_readsNumber 113 = .ok (.ireturn, 1) := by decide +kernel
theorem dX3_readsNumber_114 : decode cX3_readsNumber 114 = .ok (.aload_n 0, 1) := by decide +kernel
theorem dX3_readsNumber_115 : decode cX3_readsNumber 115 = .ok (.getfield 18, 3) := by decide +kernel
theorem dX3_readsNumber_118 : decode cX3_readsNumber 118 = .ok (.iload_n 1, 1) := by decide +kernel
theorem dX3_readsNumber_119 : decode cX3_readsNumber 119 = .ok (.iload_n 3, 1) := by decide +kernel
theorem dX3_readsNumber_120 : decode cX3_readsNumber 120 = .ok (.ifCond .eq 9, 3) := by decide +kernel
theorem dX3_readsNumber_123 : decode cX3_readsNumber 123 = .ok (.iload 4, 2) := by decide +kernel
theorem dX3_readsNumber_125 : decode cX3_readsNumber 125 = .ok (.ineg, 1) := by decide +kernel
theorem dX3_readsNumber_126 : decode cX3_readsNumber 126 = .ok (.goto 5, 3) := by decide +kernel
theorem dX3_readsNumber_129 : decode cX3_readsNumber 129 = .ok (.iload 4, 2) := by decide +kernel
theorem dX3_readsNumber_131 : decode cX3_readsNumber 131 = .ok (.iastore, 1) := by decide +kernel
theorem dX3_readsNumber_132 : decode cX3_readsNumber 132 = .ok (.iconst 1, 1) := by decide +kernel
theorem dX3_readsNumber_133 : decode cX3_readsNumber 133 = .ok (.ireturn, 1) := by decide +kernel
theorem dX3_faulty_0 : decode cX3_faulty 0 = .ok (.aload_n 0, 1) := by decide +kernel
theorem dX3_faulty_1 : decode cX3_faulty 1 = .ok (.iload_n 1, 1) := by decide +kernel
theorem dX3_faulty_2 : decode cX3_faulty 2 = .ok (.putfield 64, 3) := by decide +kernel
theorem dX3_faulty_5 : decode cX3_faulty 5 = .ok (.aload_n 0, 1) := by decide +kernel
theorem dX3_faulty_6 : decode cX3_faulty 6 = .ok (.iload_n 2, 1) := by decide +kernel
theorem dX3_faulty_7 : decode cX3_faulty 7 = .ok (.putfield 67, 3) := by decide +kernel
theorem dX3_faulty_10 : decode cX3_faulty 10 = .ok (.iconst 0, 1) := by decide +kernel
theorem dX3_faulty_11 : decode cX3_faulty 11 = .ok (.ireturn, 1) := by decide +kernel
theorem dX3_skipsBlanks_0 : decode cX3_skipsBlanks 0 = .ok (.aload_n 0, 1) := by decide +kernel
theorem dX3_skipsBlanks_1 : decode cX3_skipsBlanks 1 = .ok (.getfield 29, 3) := by decide +kernel
theorem dX3_skipsBlanks_4 : decode cX3_skipsBlanks 4 = .ok (.aload_n 0, 1) := by decide +kernel
theorem dX3_skipsBlanks_5 : decode cX3_skipsBlanks 5 = .ok (.getfield 25, 3) := by decide +kernel
theorem dX3_skipsBlanks_8 : decode cX3_skipsBlanks 8 = .ok (.if_icmp .ge 30, 3) := by decide +kernel
theorem dX3_skipsBlanks_11 : decode cX3_skipsBlanks 11 = .ok (.aload_n 0, 1) := by decide +kernel
theorem dX3_skipsBlanks_12 : decode cX3_skipsBlanks 12 = .ok (.getfield 11, 3) := by decide +kernel
theorem dX3_skipsBlanks_15 : decode cX3_skipsBlanks 15 = .ok (.aload_n 0, 1) := by decide +kernel
theorem dX3_skipsBlanks_16 : decode cX3_skipsBlanks 16 = .ok (.getfield 29, 3) := by decide +kernel
theorem dX3_skipsBlanks_19 : decode cX3_skipsBlanks 19 = .ok (.iaload, 1) := by decide +kernel
theorem dX3_skipsBlanks_20 : decode cX3_skipsBlanks 20 = .ok (.bipush 32, 2) := by decide +kernel
theorem dX3_skipsBlanks_22 : decode cX3_skipsBlanks 22 = .ok (.if_icmp .ne 16, 3) := by decide +kernel
theorem dX3_skipsBlanks_25 : decode cX3_skipsBlanks 25 = .ok (.aload_n 0, 1) := by decide +kernel
theorem dX3_skipsBlanks_26 : decode cX3_skipsBlanks 26 = .ok (.dup, 1) := by decide +kernel
theorem dX3_skipsBlanks_27 : decode cX3_skipsBlanks 27 = .ok (.getfield 29, 3) := by decide +kernel
theorem dX3_skipsBlanks_30 : decode cX3_skipsBlanks 30 = .ok (.iconst 1, 1) := by decide +kernel
theorem dX3_skipsBlanks_31 : decode cX3_skipsBlanks 31 = .ok (.iadd, 1) := by decide +kernel
theorem dX3_skipsBlanks_32 : decode cX3_skipsBlanks 32 = .ok (.putfield 29, 3) := by decide +kernel
theorem dX3_skipsBlanks_35 : decode cX3_skipsBlanks 35 = .ok (.goto (-35), 3) := by decide +kernel
theorem dX3_skipsBlanks_38 : decode cX3_skipsBlanks 38 = .ok (.return_, 1) := by decide +kernel
theorem dX3_skipsLetters_0 : decode cX3_skipsLetters 0 = .ok (.aload_n 0, 1) := by decide +kernel
theorem dX3_skipsLetters_1 : decode cX3_skipsLetters 1 = .ok (.getfield 29, 3) := by decide +kernel
theorem dX3_skipsLetters_4 : decode cX3_skipsLetters 4 = .ok (.aload_n 0, 1) := by decide +kernel
theorem dX3_skipsLetters_5 : decode cX3_skipsLetters 5 = .ok (.getfield 25, 3) := by decide +kernel
theorem dX3_skipsLetters_8 : decode cX3_skipsLetters 8 = .ok (.if_icmp .ge 35, 3) := by decide +kernel
theorem dX3_skipsLetters_11 : decode cX3_skipsLetters 11 = .ok (.aload_n 0, 1) := by decide +kernel
theorem dX3_skipsLetters_12 : decode cX3_skipsLetters 12 = .ok (.getfield 11, 3) := by decide +kernel
theorem dX3_skipsLetters_15 : decode cX3_skipsLetters 15 = .ok (.aload_n 0, 1) := by decide +kernel
theorem dX3_skipsLetters_16 : decode cX3_skipsLetters 16 = .ok (.getfield 29, 3) := by decide +kernel
theorem dX3_skipsLetters_19 : decode cX3_skipsLetters 19 = .ok (.iaload, 1) := by decide +kernel
theorem dX3_skipsLetters_20 : decode cX3_skipsLetters 20 = .ok (.bipush 97, 2) := by decide +kernel
theorem dX3_skipsLetters_22 : decode cX3_skipsLetters 22 = .ok (.bipush 122, 2) := by decide +kernel
theorem dX3_skipsLetters_24 : decode cX3_skipsLetters 24 = .ok (.invokestatic 21, 3) := by decide +kernel
theorem dX3_skipsLetters_27 : decode cX3_skipsLetters 27 = .ok (.ifCond .eq 16, 3) := by decide +kernel
theorem dX3_skipsLetters_30 : decode cX3_skipsLetters 30 = .ok (.aload_n 0, 1) := by decide +kernel
theorem dX3_skipsLetters_31 : decode cX3_skipsLetters 31 = .ok (.dup, 1) := by decide +kernel
theorem dX3_skipsLetters_32 : decode cX3_skipsLetters 32 = .ok (.getfield 29, 3) := by decide +kernel
theorem dX3_skipsLetters_35 : decode cX3_skipsLetters 35 = .ok (.iconst 1, 1) := by decide +kernel
theorem dX3_skipsLetters_36 : decode cX3_skipsLetters 36 = .ok (.iadd, 1) := by decide +kernel
theorem dX3_skipsLetters_37 : decode cX3_skipsLetters 37 = .ok (.putfield 29, 3) := by decide +kernel
theorem dX3_skipsLetters_40 : decode cX3_skipsLetters 40 = .ok (.goto (-40), 3) := by decide +kernel
theorem dX3_skipsLetters_43 : decode cX3_skipsLetters 43 = .ok (.return_, 1) := by decide +kernel
theorem dX3_isAt_0 : decode cX3_isAt 0 = .ok (.aload_n 0, 1) := by decide +kernel
theorem dX3_isAt_1 : decode cX3_isAt 1 = .ok (.getfield 29, 3) := by decide +kernel
theorem dX3_isAt_4 : decode cX3_isAt 4 = .ok (.aload_n 0, 1) := by decide +kernel
theorem dX3_isAt_5 : decode cX3_isAt 5 = .ok (.getfield 25, 3) := by decide +kernel
theorem dX3_isAt_8 : decode cX3_isAt 8 = .ok (.if_icmp .ge 20, 3) := by decide +kernel
theorem dX3_isAt_11 : decode cX3_isAt 11 = .ok (.aload_n 0, 1) := by decide +kernel
theorem dX3_isAt_12 : decode cX3_isAt 12 = .ok (.getfield 11, 3) := by decide +kernel
theorem dX3_isAt_15 : decode cX3_isAt 15 = .ok (.aload_n 0, 1) := by decide +kernel
theorem dX3_isAt_16 : decode cX3_isAt 16 = .ok (.getfield 29, 3) := by decide +kernel
theorem dX3_isAt_19 : decode cX3_isAt 19 = .ok (.iaload, 1) := by decide +kernel
theorem dX3_isAt_20 : decode cX3_isAt 20 = .ok (.iload_n 1, 1) := by decide +kernel
theorem dX3_isAt_21 : decode cX3_isAt 21 = .ok (.if_icmp .ne 7, 3) := by decide +kernel
theorem dX3_isAt_24 : decode cX3_isAt 24 = .ok (.iconst 1, 1) := by decide +kernel
theorem dX3_isAt_25 : decode cX3_isAt 25 = .ok (.goto 4, 3) := by decide +kernel
theorem dX3_isAt_28 : decode cX3_isAt 28 = .ok (.iconst 0, 1) := by decide +kernel
theorem dX3_isAt_29 : decode cX3_isAt 29 = .ok (.ireturn, 1) := by decide +kernel
theorem dX3_isAtFigure_0 : decode cX3_isAtFigure 0 = .ok (.aload_n 0, 1) := by decide +kernel
theorem dX3_isAtFigure_1 : decode cX3_isAtFigure 1 = .ok (.getfield 29, 3) := by decide +kernel
theorem dX3_isAtFigure_4 : decode cX3_isAtFigure 4 = .ok (.aload_n 0, 1) := by decide +kernel
theorem dX3_isAtFigure_5 : decode cX3_isAtFigure 5 = .ok (.getfield 25, 3) := by decide +kernel
theorem dX3_isAtFigure_8 : decode cX3_isAtFigure 8 = .ok (.if_icmp .ge 26, 3) := by decide +kernel
theorem dX3_isAtFigure_11 : decode cX3_isAtFigure 11 = .ok (.aload_n 0, 1) := by decide +kernel
theorem dX3_isAtFigure_12 : decode cX3_isAtFigure 12 = .ok (.getfield 11, 3) := by decide +kernel
theorem dX3_isAtFigure_15 : decode cX3_isAtFigure 15 = .ok (.aload_n 0, 1) := by decide +kernel
theorem dX3_isAtFigure_16 : decode cX3_isAtFigure 16 = .ok (.getfield 29, 3) := by decide +kernel
theorem dX3_isAtFigure_19 : decode cX3_isAtFigure 19 = .ok (.iaload, 1) := by decide +kernel
theorem dX3_isAtFigure_20 : decode cX3_isAtFigure 20 = .ok (.bipush 48, 2) := by decide +kernel
theorem dX3_isAtFigure_22 : decode cX3_isAtFigure 22 = .ok (.bipush 57, 2) := by decide +kernel
theorem dX3_isAtFigure_24 : decode cX3_isAtFigure 24 = .ok (.invokestatic 21, 3) := by decide +kernel
theorem dX3_isAtFigure_27 : decode cX3_isAtFigure 27 = .ok (.ifCond .eq 7, 3) := by decide +kernel
theorem dX3_isAtFigure_30 : decode cX3_isAtFigure 30 = .ok (.iconst 1, 1) := by decide +kernel
theorem dX3_isAtFigure_31 : decode cX3_isAtFigure 31 = .ok (.goto 4, 3) := by decide +kernel
theorem dX3_isAtFigure_34 : decode cX3_isAtFigure 34 = .ok (.iconst 0, 1) := by decide +kernel
theorem dX3_isAtFigure_35 : decode cX3_isAtFigure 35 = .ok (.ireturn, 1) := by decide +kernel
theorem dX3_wordBetween_0 : decode cX3_wordBetween 0 = .ok (.iconst 0, 1) := by decide +kernel
theorem dX3_wordBetween_1 : decode cX3_wordBetween 1 = .ok (.istore_n 3, 1) := by decide +kernel
theorem dX3_wordBetween_2 : decode cX3_wordBetween 2 = .ok (.iload_n 3, 1) := by decide +kernel
theorem dX3_wordBetween_3 : decode cX3_wordBetween 3 = .ok (.bipush 8, 2) := by decide +kernel
theorem dX3_wordBetween_5 : decode cX3_wordBetween 5 = .ok (.if_icmp .ge 24, 3) := by decide +kernel
theorem dX3_wordBetween_8 : decode cX3_wordBetween 8 = .ok (.aload_n 0, 1) := by decide +kernel
theorem dX3_wordBetween_9 : decode cX3_wordBetween 9 = .ok (.iload_n 1, 1) := by decide +kernel
theorem dX3_wordBetween_10 : decode cX3_wordBetween 10 = .ok (.iload_n 2, 1) := by decide +kernel
theorem dX3_wordBetween_11 : decode cX3_wordBetween 11 = .ok (.iload_n 3, 1) := by decide +kernel
theorem dX3_wordBetween_12 : decode cX3_wordBetween 12 = .ok (.invokestatic 70, 3) := by decide +kernel
theorem dX3_wordBetween_15 : decode cX3_wordBetween 15 = .ok (.invokevirtual 74, 3) := by decide +kernel
theorem dX3_wordBetween_18 : decode cX3_wordBetween 18 = .ok (.ifCond .eq 5, 3) := by decide +kernel
theorem dX3_wordBetween_21 : decode cX3_wordBetween 21 = .ok (.iload_n 3, 1) := by decide +kernel
theorem dX3_wordBetween_22 : decode cX3_wordBetween 22 = .ok (.ireturn, 1) := by decide +kernel
theorem dX3_wordBetween_23 : decode cX3_wordBetween 23 = .ok (.iinc 3 1, 3) := by decide +kernel
theorem dX3_wordBetween_26 : decode cX3_wordBetween 26 = .ok (.goto (-24), 3) := by decide +kernel
theorem dX3_wordBetween_29 : decode cX3_wordBetween 29 = .ok (.iconst (-1), 1) := by decide +kernel
theorem dX3_wordBetween_30 : decode cX3_wordBetween 30 = .ok (.ireturn, 1) := by decide +kernel
theorem dX3_spells_0 : decode cX3_spells 0 = .ok (.iload_n 2, 1) := by decide +kernel
theorem dX3_spells_1 : decode cX3_spells 1 = .ok (.iload_n 1, 1) := by decide +kernel
theorem dX3_spells_2 : decode cX3_spells 2 = .ok (.isub, 1) := by decide +kernel
theorem dX3_spells_3 : decode cX3_spells 3 = .ok (.aload_n 3, 1) := by decide +kernel
theorem dX3_spells_4 : decode cX3_spells 4 = .ok (.invokevirtual 78, 3) := by decide +kernel
theorem dX3_spells_7 : decode cX3_spells 7 = .ok (.if_icmp .eq 5, 3) := by decide +kernel
theorem dX3_spells_10 : decode cX3_spells 10 = .ok (.iconst 0, 1) := by decide +kernel
theorem dX3_spells_11 : decode cX3_spells 11 = .ok (.ireturn, 1) := by decide +kernel
theorem dX3_spells_12 : decode cX3_spells 12 = .ok (.iconst 0, 1) := by decide +kernel
theorem dX3_spells_13 : decode cX3_spells 13 = .ok (.istore 4, 2) := by decide +kernel
theorem dX3_spells_15 : decode cX3_spells 15 = .ok (.iload 4, 2) := by decide +kernel
theorem dX3_spells_17 : decode cX3_spells 17 = .ok (.aload_n 3, 1) := by decide +kernel
theorem dX3_spells_18 : decode cX3_spells 18 = .ok (.invokevirtual 78, 3) := by decide +kernel
theorem dX3_spells_21 : decode cX3_spells 21 = .ok (.if_icmp .ge 29, 3) := by decide +kernel
theorem dX3_spells_24 : decode cX3_spells 24 = .ok (.aload_n 0, 1) := by decide +kernel
theorem dX3_spells_25 : decode cX3_spells 25 = .ok (.getfield 11, 3) := by decide +kernel
theorem dX3_spells_28 : decode cX3_spells 28 = .ok (.iload_n 1, 1) := by decide +kernel
theorem dX3_spells_29 : decode cX3_spells 29 = .ok (.iload 4, 2) := by decide +kernel
theorem dX3_spells_31 : decode cX3_spells 31 = .ok (.iadd, 1) := by decide +kernel
theorem dX3_spells_32 : decode cX3_spells 32 = .ok (.iaload, 1) := by decide +kernel
theorem dX3_spells_33 : decode cX3_spells 33 = .ok (.aload_n 3, 1) := by decide +kernel
theorem dX3_spells_34 : decode cX3_spells 34 = .ok (.iload 4, 2) := by decide +kernel
theorem dX3_spells_36 : decode cX3_spells 36 = .ok (.invokevirtual 84, 3) := by decide +kernel
theorem dX3_spells_39 : decode cX3_spells 39 = .ok (.if_icmp .eq 5, 3) := by decide +kernel
theorem dX3_spells_42 : decode cX3_spells 42 = .ok (.iconst 0, 1) := by decide +kernel
theorem dX3_spells_43 : decode cX3_spells 43 = .ok (.ireturn, 1) := by decide +kernel
theorem dX3_spells_44 : decode cX3_spells 44 = .ok (.iinc 4 1, 3) := by decide +kernel
theorem dX3_spells_47 : decode cX3_spells 47 = .ok (.goto (-32), 3) := by decide +kernel
theorem dX3_spells_50 : decode cX3_spells 50 = .ok (.iconst 1, 1) := by decide +kernel
theorem dX3_spells_51 : decode cX3_spells 51 = .ok (.ireturn, 1) := by decide +kernel
theorem dX3_spelling_0 : decode cX3_spelling 0 = .ok (.iload_n 0, 1) := by decide +kernel
theorem dX3_spelling_1 : decode cX3_spelling 1 = .ok (.tableswitch 71 0 7 #[47, 50, 53, 56, 59, 62, 65, 68], 47) := by decide +kernel
theorem dX3_spelling_48 : decode cX3_spelling 48 = .ok (.ldc 88, 2) := by decide +kernel
theorem dX3_spelling_50 : decode cX3_spelling 50 = .ok (.areturn, 1) := by decide +kernel
theorem dX3_spelling_51 : decode cX3_spelling 51 = .ok (.ldc 90, 2) := by decide +kernel
theorem dX3_spelling_53 : decode cX3_spelling 53 = .ok (.areturn, 1) := by decide +kernel
theorem dX3_spelling_54 : decode cX3_spelling 54 = .ok (.ldc 92, 2) := by decide +kernel
theorem dX3_spelling_56 : decode cX3_spelling 56 = .ok (.areturn, 1) := by decide +kernel
theorem dX3_spelling_57 : decode cX3_spelling 57 = .ok (.ldc 94, 2) := by decide +kernel
theorem dX3_spelling_59 : decode cX3_spelling 59 = .ok (.areturn, 1) := by decide +kernel
theorem dX3_spelling_60 : decode cX3_spelling 60 = .ok (.ldc 96, 2) := by decide +kernel
theorem dX3_spelling_62 : decode cX3_spelling 62 = .ok (.areturn, 1) := by decide +kernel
theorem dX3_spelling_63 : decode cX3_spelling 63 = .ok (.ldc 98, 2) := by decide +kernel
theorem dX3_spelling_65 : decode cX3_spelling 65 = .ok (.areturn, 1) := by decide +kernel
theorem dX3_spelling_66 : decode cX3_spelling 66 = .ok (.ldc 100, 2) := by decide +kernel
theorem dX3_spelling_68 : decode cX3_spelling 68 = .ok (.areturn, 1) := by decide +kernel
theorem dX3_spelling_69 : decode cX3_spelling 69 = .ok (.ldc 102, 2) := by decide +kernel
theorem dX3_spelling_71 : decode cX3_spelling 71 = .ok (.areturn, 1) := by decide +kernel
theorem dX3_spelling_72 : decode cX3_spelling 72 = .ok (.ldc 104, 2) := by decide +kernel
theorem dX3_spelling_74 : decode cX3_spelling 74 = .ok (.areturn, 1) := by decide +kernel
theorem dX4_init_0 : decode cX4_init 0 = .ok (.aload_n 0, 1) := by decide +kernel
theorem dX4_init_1 : decode cX4_init 1 = .ok (.invokespecial 1, 3) := by decide +kernel
theorem dX4_init_4 : decode cX4_init 4 = .ok (.aload_n 0, 1) := by decide +kernel
theorem dX4_init_5 : decode cX4_init 5 = .ok (.new 7, 3) := by decide +kernel
theorem dX4_init_8 : decode cX4_init 8 = .ok (.dup, 1) := by decide +kernel
theorem dX4_init_9 : decode cX4_init 9 = .ok (.invokespecial 9, 3) := by decide +kernel
theorem dX4_init_12 : decode cX4_init 12 = .ok (.putfield 10, 3) := by decide +kernel
theorem dX4_init_15 : decode cX4_init 15 = .ok (.aload_n 0, 1) := by decide +kernel
theorem dX4_init_16 : decode cX4_init 16 = .ok (.new 16, 3) := by decide +kernel
theorem dX4_init_19 : decode cX4_init 19 = .ok (.dup, 1) := by decide +kernel
theorem dX4_init_20 : decode cX4_init 20 = .ok (.invokespecial 18, 3) := by decide +kernel
theorem dX4_init_23 : decode cX4_init 23 = .ok (.putfield 19, 3) := by decide +kernel
theorem dX4_init_26 : decode cX4_init 26 = .ok (.return_, 1) := by decide +kernel
theorem dX4_copies_0 : decode cX4_copies 0 = .ok (.aload_n 0, 1) := by decide +kernel
theorem dX4_copies_1 : decode cX4_copies 1 = .ok (.getfield 10, 3) := by decide +kernel
theorem dX4_copies_4 : decode cX4_copies 4 = .ok (.aload_n 1, 1) := by decide +kernel
theorem dX4_copies_5 : decode cX4_copies 5 = .ok (.getfield 10, 3) := by decide +kernel
theorem dX4_copies_8 : decode cX4_copies 8 = .ok (.invokevirtual 23, 3) := by decide +kernel
theorem dX4_copies_11 : decode cX4_copies 11 = .ok (.aload_n 0, 1) := by decide +kernel
theorem dX4_copies_12 : decode cX4_copies 12 = .ok (.getfield 19, 3) := by decide +kernel
theorem dX4_copies_15 : decode cX4_copies 15 = .ok (.aload_n 1, 1) := by decide +kernel
theorem dX4_copies_16 : decode cX4_copies 16 = .ok (.getfield 19, 3) := by decide +kernel
theorem dX4_copies_19 : decode cX4_copies 19 = .ok (.invokevirtual 27, 3) := by decide +kernel
theorem dX4_copies_22 : decode cX4_copies 22 = .ok (.return_, 1) := by decide +kernel
theorem dX5_init_0 : decode cX5_init 0 = .ok (.aload_n 0, 1) := by decide +kernel
theorem dX5_init_1 : decode cX5_init 1 = .ok (.invokespecial 3, 3) := by decide +kernel
theorem dX5_init_4 : decode cX5_init 4 = .ok (.aload_n 0, 1) := by decide +kernel
theorem dX5_init_5 : decode cX5_init 5 = .ok (.sipush 200, 3) := by decide +kernel
theorem dX5_init_8 : decode cX5_init 8 = .ok (.newarray .int, 2) := by decide +kernel
theorem dX5_init_10 : decode cX5_init 10 = .ok (.putfield 11, 3) := by decide +kernel
theorem dX5_init_13 : decode cX5_init 13 = .ok (.aload_n 0, 1) := by decide +kernel
theorem dX5_init_14 : decode cX5_init 14 = .ok (.sipush 200, 3) := by decide +kernel
theorem dX5_init_17 : decode cX5_init 17 = .ok (.newarray .int, 2) := by decide +kernel
theorem dX5_init_19 : decode cX5_init 19 = .ok (.putfield 15, 3) := by decide +kernel
theorem dX5_init_22 : decode cX5_init 22 = .ok (.aload_n 0, 1) := by decide +kernel
theorem dX5_init_23 : decode cX5_init 23 = .ok (.sipush 200, 3) := by decide +kernel
theorem dX5_init_26 : decode cX5_init 26 = .ok (.newarray .int, 2) := by decide +kernel
theorem dX5_init_28 : decode cX5_init 28 = .ok (.putfield 18, 3) := by decide +kernel
theorem dX5_init_31 : decode cX5_init 31 = .ok (.aload_n 0, 1) := by decide +kernel
theorem dX5_init_32 : decode cX5_init 32 = .ok (.getstatic 21, 3) := by decide +kernel
theorem dX5_init_35 : decode cX5_init 35 = .ok (.arraylength, 1) := by decide +kernel
theorem dX5_init_36 : decode cX5_init 36 = .ok (.newarray .int, 2) := by decide +kernel
theorem dX5_init_38 : decode cX5_init 38 = .ok (.putfield 24, 3) := by decide +kernel
theorem dX5_init_41 : decode cX5_init 41 = .ok (.aload_n 0, 1) := by decide +kernel
theorem dX5_init_42 : decode cX5_init 42 = .ok (.bipush 100, 2) := by decide +kernel
theorem dX5_init_44 : decode cX5_init 44 = .ok (.putfield 27, 3) := by decide +kernel
theorem dX5_init_47 : decode cX5_init 47 = .ok (.iconst 0, 1) := by decide +kernel
theorem dX5_init_48 : decode cX5_init 48 = .ok (.istore_n 1, 1) := by decide +kernel
theorem dX5_init_49 : decode cX5_init 49 = .ok (.iload_n 1, 1) := by decide +kernel
theorem dX5_init_50 : decode cX5_init 50 = .ok (.bipush 100, 2) := by decide +kernel
theorem dX5_init_52 : decode cX5_init 52 = .ok (.if_icmp .ge 17, 3) := by decide +kernel
theorem dX5_init_55 : decode cX5_init 55 = .ok (.aload_n 0, 1) := by decide +kernel
theorem dX5_init_56 : decode cX5_init 56 = .ok (.getfield 11, 3) := by decide +kernel
theorem dX5_init_59 : decode cX5_init 59 = .ok (.iload_n 1, 1) := by decide +kernel
theorem dX5_init_60 : decode cX5_init 60 = .ok (.bipush 40, 2) := by decide +kernel
theorem dX5_init_62 : decode cX5_init 62 = .ok (.iastore, 1) := by decide +kernel
theorem dX5_init_63 : decode cX5_init 63 = .ok (.iinc 1 1, 3) := by decide +kernel
theorem dX5_init_66 : decode cX5_init 66 = .ok (.goto (-17), 3) := by decide +kernel
theorem dX5_init_69 : decode cX5_init 69 = .ok (.getstatic 21, 3) := by decide +kernel
theorem dX5_init_72 : decode cX5_init 72 = .ok (.iconst 0, 1) := by decide +kernel
theorem dX5_init_73 : decode cX5_init 73 = .ok (.aload_n 0, 1) := by decide +kernel
theorem dX5_init_74 : decode cX5_init 74 = .ok (.getfield 24, 3) := by decide +kernel
theorem dX5_init_77 : decode cX5_init 77 = .ok (.iconst 0, 1) := by decide +kernel
theorem dX5_init_78 : decode cX5_init 78 = .ok (.getstatic 21, 3) := by decide +kernel
theorem dX5_init_81 : decode cX5_init 81 = .ok (.arraylength, 1) := by decide +kernel
theorem dX5_init_82 : decode cX5_init 82 = .ok (.invokestatic 31, 3) := by decide +kernel
theorem dX5_init_85 : decode cX5_init 85 = .ok (.return_, 1) := by decide +kernel
theorem dX5_copies_0 : decode cX5_copies 0 = .ok (.aload_n 0, 1) := by decide +kernel
theorem dX5_copies_1 : decode cX5_copies 1 = .ok (.aload_n 1, 1) := by decide +kernel
theorem dX5_copies_2 : decode cX5_copies 2 = .ok (.getfield 27, 3) := by decide +kernel
theorem dX5_copies_5 : decode cX5_copies 5 = .ok (.putfield 27, 3) := by decide +kernel
theorem dX5_copies_8 : decode cX5_copies 8 = .ok (.aload_n 1, 1) := by decide +kernel
theorem dX5_copies_9 : decode cX5_copies 9 = .ok (.getfield 11, 3) := by decide +kernel
theorem dX5_copies_12 : decode cX5_copies 12 = .ok (.iconst 0, 1) := by decide +kernel
theorem dX5_copies_13 : decode cX5_copies 13 = .ok (.aload_n 0, 1) := by decide +kernel
theorem dX5_copies_14 : decode cX5_copies 14 = .ok (.getfield 11, 3) := by decide +kernel
theorem dX5_copies_17 : decode cX5_copies 17 = .ok (.iconst 0, 1) := by decide +kernel
theorem dX5_copies_18 : decode cX5_copies 18 = .ok (.sipush 200, 3) := by decide +kernel
theorem dX5_copies_21 : decode cX5_copies 21 = .ok (.invokestatic 31, 3) := by decide +kernel
theorem dX5_copies_24 : decode cX5_copies 24 = .ok (.aload_n 1, 1) := by decide +kernel
theorem dX5_copies_25 : decode cX5_copies 25 = .ok (.getfield 15, 3) := by decide +kernel
theorem dX5_copies_28 : decode cX5_copies 28 = .ok (.iconst 0, 1) := by decide +kernel
theorem dX5_copies_29 : decode cX5_copies 29 = .ok (.aload_n 0, 1) := by decide +kernel
theorem dX5_copies_30 : decode cX5_copies 30 = .ok (.getfield 15, 3) := by decide +kernel
theorem dX5_copies_33 : decode cX5_copies 33 = .ok (.iconst 0, 1) := by decide +kernel
theorem dX5_copies_34 : decode cX5_copies 34 = .ok (.sipush 200, 3) := by decide +kernel
theorem dX5_copies_37 : decode cX5_copies 37 = .ok (.invokestatic 31, 3) := by decide +kernel
theorem dX5_copies_40 : decode cX5_copies 40 = .ok (.aload_n 1, 1) := by decide +kernel
theorem dX5_copies_41 : decode cX5_copies 41 = .ok (.getfield 18, 3) := by decide +kernel
theorem dX5_copies_44 : decode cX5_copies 44 = .ok (.iconst 0, 1) := by decide +kernel
theorem dX5_copies_45 : decode cX5_copies 45 = .ok (.aload_n 0, 1) := by decide +kernel
theorem dX5_copies_46 : decode cX5_copies 46 = .ok (.getfield 18, 3) := by decide +kernel
theorem dX5_copies_49 : decode cX5_copies 49 = .ok (.iconst 0, 1) := by decide +kernel
theorem dX5_copies_50 : decode cX5_copies 50 = .ok (.sipush 200, 3) := by decide +kernel
theorem dX5_copies_53 : decode cX5_copies 53 = .ok (.invokestatic 31, 3) := by decide +kernel
theorem dX5_copies_56 : decode cX5_copies 56 = .ok (.aload_n 1, 1) := by decide +kernel
theorem dX5_copies_57 : decode cX5_copies 57 = .ok (.getfield 24, 3) := by decide +kernel
theorem dX5_copies_60 : decode cX5_copies 60 = .ok (.iconst 0, 1) := by decide +kernel
theorem dX5_copies_61 : decode cX5_copies 61 = .ok (.aload_n 0, 1) := by decide +kernel
theorem dX5_copies_62 : decode cX5_copies 62 = .ok (.getfield 24, 3) := by decide +kernel
theorem dX5_copies_65 : decode cX5_copies 65 = .ok (.iconst 0, 1) := by decide +kernel
theorem dX5_copies_66 : decode cX5_copies 66 = .ok (.getstatic 21, 3) := by decide +kernel
theorem dX5_copies_69 : decode cX5_copies 69 = .ok (.arraylength, 1) := by decide +kernel
theorem dX5_copies_70 : decode cX5_copies 70 = .ok (.invokestatic 31, 3) := by decide +kernel
theorem dX5_copies_73 : decode cX5_copies 73 = .ok (.return_, 1) := by decide +kernel
theorem dX5_has_0 : decode cX5_has 0 = .ok (.iload_n 1, 1) := by decide +kernel
theorem dX5_has_1 : decode cX5_has 1 = .ok (.iconst 0, 1) := by decide +kernel
theorem dX5_has_2 : decode cX5_has 2 = .ok (.aload_n 0, 1) := by decide +kernel
theorem dX5_has_3 : decode cX5_has 3 = .ok (.getfield 27, 3) := by decide +kernel
theorem dX5_has_6 : decode cX5_has 6 = .ok (.iconst 1, 1) := by decide +kernel
theorem dX5_has_7 : decode cX5_has 7 = .ok (.isub, 1) := by decide +kernel
theorem dX5_has_8 : decode cX5_has 8 = .ok (.invokestatic 37, 3) := by decide +kernel
theorem dX5_has_11 : decode cX5_has 11 = .ok (.ireturn, 1) := by decide +kernel
theorem dX5_decel_0 : decode cX5_decel 0 = .ok (.iconst 1, 1) := by decide +kernel
theorem dX5_decel_1 : decode cX5_decel 1 = .ok (.aload_n 0, 1) := by decide +kernel
theorem dX5_decel_2 : decode cX5_decel 2 = .ok (.getfield 24, 3) := by decide +kernel
theorem dX5_decel_5 : decode cX5_decel 5 = .ok (.iconst 0, 1) := by decide +kernel
theorem dX5_decel_6 : decode cX5_decel 6 = .ok (.iaload, 1) := by decide +kernel
theorem dX5_decel_7 : decode cX5_decel 7 = .ok (.aload_n 0, 1) := by decide +kernel
theorem dX5_decel_8 : decode cX5_decel 8 = .ok (.getfield 15, 3) := by decide +kernel
theorem dX5_decel_11 : decode cX5_decel 11 = .ok (.iload_n 1, 1) := by decide +kernel
theorem dX5_decel_12 : decode cX5_decel 12 = .ok (.iaload, 1) := by decide +kernel
theorem dX5_decel_13 : decode cX5_decel 13 = .ok (.iadd, 1) := by decide +kernel
theorem dX5_decel_14 : decode cX5_decel 14 = .ok (.invokestatic 41, 3) := by decide +kernel
theorem dX5_decel_17 : decode cX5_decel 17 = .ok (.ireturn, 1) := by decide +kernel
theorem dX5_resized_0 : decode cX5_resized 0 = .ok (.iload_n 1, 1) := by decide +kernel
theorem dX5_resized_1 : decode cX5_resized 1 = .ok (.iconst 5, 1) := by decide +kernel
theorem dX5_resized_2 : decode cX5_resized 2 = .ok (.sipush 200, 3) := by decide +kernel
theorem dX5_resized_5 : decode cX5_resized 5 = .ok (.invokestatic 37, 3) := by decide +kernel
theorem dX5_resized_8 : decode cX5_resized 8 = .ok (.ifCond .ne 6, 3) := by decide +kernel
theorem dX5_resized_11 : decode cX5_resized 11 = .ok (.bipush (-2), 2) := by decide +kernel
theorem dX5_resized_13 : decode cX5_resized 13 = .ok (.ireturn, 1) := by decide +kernel
theorem dX5_resized_14 : decode cX5_resized 14 = .ok (.aload_n 0, 1) := by decide +kernel
theorem dX5_resized_15 : decode cX5_resized 15 = .ok (.getfield 27, 3) := by decide +kernel
theorem dX5_resized_18 : decode cX5_resized 18 = .ok (.istore_n 2, 1) := by decide +kernel
theorem dX5_resized_19 : decode cX5_resized 19 = .ok (.iload_n 2, 1) := by decide +kernel
theorem dX5_resized_20 : decode cX5_resized 20 = .ok (.istore_n 3, 1) := by decide +kernel
theorem dX5_resized_21 : decode cX5_resized 21 = .ok (.iload_n 3, 1) := by decide +kernel
theorem dX5_resized_22 : decode cX5_resized 22 = .ok (.iload_n 1, 1) := by decide +kernel
theorem dX5_resized_23 : decode cX5_resized 23 = .ok (.if_icmp .ge 31, 3) := by decide +kernel
theorem dX5_resized_26 : decode cX5_resized 26 = .ok (.aload_n 0, 1) := by decide +kernel
theorem dX5_resized_27 : decode cX5_resized 27 = .ok (.getfield 11, 3) := by decide +kernel
theorem dX5_resized_30 : decode cX5_resized 30 = .ok (.iload_n 3, 1) := by decide +kernel
theorem dX5_resized_31 : decode cX5_resized 31 = .ok (.bipush 40, 2) := by decide +kernel
theorem dX5_resized_33 : decode cX5_resized 33 = .ok (.iastore, 1) := by decide +kernel
theorem dX5_resized_34 : decode cX5_resized 34 = .ok (.aload_n 0, 1) := by decide +kernel
theorem dX5_resized_35 : decode cX5_resized 35 = .ok (.getfield 15, 3) := by decide +kernel
theorem dX5_resized_38 : decode cX5_resized 38 = .ok (.iload_n 3, 1) := by decide +kernel
theorem dX5_resized_39 : decode cX5_resized 39 = .ok (.iconst 0, 1) := by decide +kernel
theorem dX5_resized_40 : decode cX5_resized 40 = .ok (.iastore, 1) := by decide +kernel
theorem dX5_resized_41 : decode cX5_resized 41 = .ok (.aload_n 0, 1) := by decide +kernel
theorem dX5_resized_42 : decode cX5_resized 42 = .ok (.getfield 18, 3) := by decide +kernel
theorem dX5_resized_45 : decode cX5_resized 45 = .ok (.iload_n 3, 1) := by decide +kernel
theorem dX5_resized_46 : decode cX5_resized 46 = .ok (.iconst 0, 1) := by decide +kernel
theorem dX5_resized_47 : decode cX5_resized 47 = .ok (.iastore, 1) := by decide +kernel
theorem dX5_resized_48 : decode cX5_resized 48 = .ok (.iinc 3 1, 3) := by decide +kernel
theorem dX5_resized_51 : decode cX5_resized 51 = .ok (.goto (-30), 3) := by decide +kernel
theorem dX5_resized_54 : decode cX5_resized 54 = .ok (.aload_n 0, 1) := by decide +kernel
theorem dX5_resized_55 : decode cX5_resized 55 = .ok (.iload_n 1, 1) := by decide +kernel
theorem dX5_resized_56 : decode cX5_resized 56 = .ok (.putfield 27, 3) := by decide +kernel
theorem dX5_resized_59 : decode cX5_resized 59 = .ok (.iload_n 2, 1) := by decide +kernel
theorem dX5_resized_60 : decode cX5_resized 60 = .ok (.ireturn, 1) := by decide +kernel
theorem dX5_relaid_0 : decode cX5_relaid 0 = .ok (.aload_n 0, 1) := by decide +kernel
theorem dX5_relaid_1 : decode cX5_relaid 1 = .ok (.iload_n 2, 1) := by decide +kernel
theorem dX5_relaid_2 : decode cX5_relaid 2 = .ok (.invokevirtual 47, 3) := by decide +kernel
theorem dX5_relaid_5 : decode cX5_relaid 5 = .ok (.ifCond .eq 16, 3) := by decide +kernel
theorem dX5_relaid_8 : decode cX5_relaid 8 = .ok (.aload_n 0, 1) := by decide +kernel
theorem dX5_relaid_9 : decode cX5_relaid 9 = .ok (.iload_n 3, 1) := by decide +kernel
theorem dX5_relaid_10 : decode cX5_relaid 10 = .ok (.invokevirtual 47, 3) := by decide +kernel
theorem dX5_relaid_13 : decode cX5_relaid 13 = .ok (.ifCond .eq 8, 3) := by decide +kernel
theorem dX5_relaid_16 : decode cX5_relaid 16 = .ok (.iload_n 2, 1) := by decide +kernel
theorem dX5_relaid_17 : decode cX5_relaid 17 = .ok (.iload_n 3, 1) := by decide +kernel
theorem dX5_relaid_18 : decode cX5_relaid 18 = .ok (.if_icmp .le 6, 3) := by decide +kernel
theorem dX5_relaid_21 : decode cX5_relaid 21 = .ok (.bipush (-2), 2) := by decide +kernel
theorem dX5_relaid_23 : decode cX5_relaid 23 = .ok (.ireturn, 1) := by decide +kernel
theorem dX5_relaid_24 : decode cX5_relaid 24 = .ok (.iload_n 1, 1) := by decide +kernel
theorem dX5_relaid_25 : decode cX5_relaid 25 = .ok (.ifCond .ne 26, 3) := by decide +kernel
theorem dX5_relaid_28 : decode cX5_relaid 28 = .ok (.iload 4, 2) := by decide +kernel
theorem dX5_relaid_30 : decode cX5_relaid 30 = .ok (.iconst 0, 1) := by decide +kernel
theorem dX5_relaid_31 : decode cX5_relaid 31 = .ok (.bipush 60, 2) := by decide +kernel
theorem dX5_relaid_33 : decode cX5_relaid 33 = .ok (.invokestatic 37, 3) := by decide +kernel
theorem dX5_relaid_36 : decode cX5_relaid 36 = .ok (.ifCond .eq 15, 3) := by decide +kernel
theorem dX5_relaid_39 : decode cX5_relaid 39 = .ok (.aload_n 0, 1) := by decide +kernel
theorem dX5_relaid_40 : decode cX5_relaid 40 = .ok (.getfield 11, 3) := by decide +kernel
theorem dX5_relaid_43 : decode cX5_relaid 43 = .ok (.iload_n 2, 1) := by decide +kernel
theorem dX5_relaid_44 : decode cX5_relaid 44 = .ok (.iload_n 3, 1) := by decide +kernel
theorem dX5_relaid_45 : decode cX5_relaid 45 = .ok (.iload 4, 2) := by decide +kernel
theorem dX5_relaid_47 : decode cX5_relaid 47 = .ok (.invokestatic 51, 3) := by decide +kernel
theorem dX5_relaid_50 : decode cX5_relaid 50 = .ok (.ireturn, 1) := by decide +kernel
theorem dX5_relaid_51 : decode cX5_relaid 51 = .ok (.iload_n 1, 1) := by decide +kernel
theorem dX5_relaid_52 : decode cX5_relaid 52 = .ok (.iconst 1, 1) := by decide +kernel
theorem dX5_relaid_53 : decode cX5_relaid 53 = .ok (.if_icmp .ne 27, 3) := by decide +kernel
theorem dX5_relaid_56 : decode cX5_relaid 56 = .ok (.iload 4, 2) := by decide +kernel
theorem dX5_relaid_58 : decode cX5_relaid 58 = .ok (.bipush (-20), 2) := by decide +kernel
theorem dX5_relaid_60 : decode cX5_relaid 60 = .ok (.bipush 20, 2) := by decide +kernel
theorem dX5_relaid_62 : decode cX5_relaid 62 = .ok (.invokestatic 37, 3) := by decide +kernel
theorem dX5_relaid_65 : decode cX5_relaid 65 = .ok (.ifCond .eq 15, 3) := by decide +kernel
theorem dX5_relaid_68 : decode cX5_relaid 68 = .ok (.aload_n 0, 1) := by decide +kernel
theorem dX5_relaid_69 : decode cX5_relaid 69 = .ok (.getfield 15, 3) := by decide +kernel
theorem dX5_relaid_72 : decode cX5_relaid 72 = .ok (.iload_n 2, 1) := by decide +kernel
theorem dX5_relaid_73 : decode cX5_relaid 73 = .ok (.iload_n 3, 1) := by decide +kernel
theorem dX5_relaid_74 : decode cX5_relaid 74 = .ok (.iload 4, 2) := by decide +kernel
theorem dX5_relaid_76 : decode cX5_relaid 76 = .ok (.invokestatic 51, 3) := by decide +kernel
theorem dX5_relaid_79 : decode cX5_relaid 79 = .ok (.ireturn, 1) := by decide +kernel
theorem dX5_relaid_80 : decode cX5_relaid 80 = .ok (.bipush (-2), 2) := by decide +kernel
theorem dX5_relaid_82 : decode cX5_relaid 82 = .ok (.ireturn, 1) := by decide +kernel
theorem dX5_filled_0 : decode cX5_filled 0 = .ok (.iconst 0, 1) := by decide +kernel
theorem dX5_filled_1 : decode cX5_filled 1 = .ok (.istore 4, 2) := by decide +kernel
theorem dX5_filled_3 : decode cX5_filled 3 = .ok (.iload_n 1, 1) := by decide +kernel
theorem dX5_filled_4 : decode cX5_filled 4 = .ok (.istore 5, 2) := by decide +kernel
theorem dX5_filled_6 : decode cX5_filled 6 = .ok (.iload 5, 2) := by decide +kernel
theorem dX5_filled_8 : decode cX5_filled 8 = .ok (.iload_n 2, 1) := by decide +kernel
theorem dX5_filled_9 : decode cX5_filled 9 = .ok (.if_icmp .gt 25, 3) := by decide +kernel
theorem dX5_filled_12 : decode cX5_filled 12 = .ok (.aload_n 0, 1) := by decide +kernel
theorem dX5_filled_13 : decode cX5_filled 13 = .ok (.iload 5, 2) := by decide +kernel
theorem dX5_filled_15 : decode cX5_filled 15 = .ok (.iaload, 1) := by decide +kernel
theorem dX5_filled_16 : decode cX5_filled 16 = .ok (.iload_n 3, 1) := by decide +kernel
theorem dX5_filled_17 : decode cX5_filled 17 = .ok (.if_icmp .eq 11, 3) := by decide +kernel
theorem dX5_filled_20 : decode cX5_filled 20 = .ok (.iinc 4 1, 3) := by decide +kernel
theorem dX5_filled_23 : decode cX5_filled 23 = .ok (.aload_n 0, 1) := by decide +kernel
theorem dX5_filled_24 : decode cX5_filled 24 = .ok (.iload 5, 2) := by decide +kernel
theorem dX5_filled_26 : decode cX5_filled 26 = .ok (.iload_n 3, 1) := by decide +kernel
theorem dX5_filled_27 : decode cX5_filled 27 = .ok (.iastore, 1) := by decide +kernel
theorem dX5_filled_28 : decode cX5_filled 28 = .ok (.iinc 5 1, 3) := by decide +kernel
theorem dX5_filled_31 : decode cX5_filled 31 = .ok (.goto (-25), 3) := by decide +kernel
theorem dX5_filled_34 : decode cX5_filled 34 = .ok (.iload 4, 2) := by decide +kernel
theorem dX5_filled_36 : decode cX5_filled 36 = .ok (.ireturn, 1) := by decide +kernel
theorem dX5_marked_0 : decode cX5_marked 0 = .ok (.aload_n 0, 1) := by decide +kernel
theorem dX5_marked_1 : decode cX5_marked 1 = .ok (.iload_n 1, 1) := by decide +kernel
theorem dX5_marked_2 : decode cX5_marked 2 = .ok (.invokevirtual 47, 3) := by decide +kernel
theorem dX5_marked_5 : decode cX5_marked 5 = .ok (.ifCond .eq 12, 3) := by decide +kernel
theorem dX5_marked_8 : decode cX5_marked 8 = .ok (.iload_n 2, 1) := by decide +kernel
theorem dX5_marked_9 : decode cX5_marked 9 = .ok (.iconst 0, 1) := by decide +kernel
theorem dX5_marked_10 : decode cX5_marked 10 = .ok (.iconst 1, 1) := by decide +kernel
theorem dX5_marked_11 : decode cX5_marked 11 = .ok (.invokestatic 37, 3) := by decide +kernel
theorem dX5_marked_14 : decode cX5_marked 14 = .ok (.ifCond .ne 6, 3) := by decide +kernel
theorem dX5_marked_17 : decode cX5_marked 17 = .ok (.bipush (-2), 2) := by decide +kernel
theorem dX5_marked_19 : decode cX5_marked 19 = .ok (.ireturn, 1) := by decide +kernel
theorem dX5_marked_20 : decode cX5_marked 20 = .ok (.aload_n 0, 1) := by decide +kernel
theorem dX5_marked_21 : decode cX5_marked 21 = .ok (.getfield 18, 3) := by decide +kernel
theorem dX5_marked_24 : decode cX5_marked 24 = .ok (.iload_n 1, 1) := by decide +kernel
theorem dX5_marked_25 : decode cX5_marked 25 = .ok (.iaload, 1) := by decide +kernel
theorem dX5_marked_26 : decode cX5_marked 26 = .ok (.istore_n 3, 1) := by decide +kernel
theorem dX5_marked_27 : decode cX5_marked 27 = .ok (.aload_n 0, 1) := by decide +kernel
theorem dX5_marked_28 : decode cX5_marked 28 = .ok (.getfield 18, 3) := by decide +kernel
theorem dX5_marked_31 : decode cX5_marked 31 = .ok (.iload_n 1, 1) := by decide +kernel
theorem dX5_marked_32 : decode cX5_marked 32 = .ok (.iload_n 2, 1) := by decide +kernel
theorem dX5_marked_33 : decode cX5_marked 33 = .ok (.iastore, 1) := by decide +kernel
theorem dX5_marked_34 : decode cX5_marked 34 = .ok (.iload_n 3, 1) := by decide +kernel
theorem dX5_marked_35 : decode cX5_marked 35 = .ok (.ireturn, 1) := by decide +kernel
theorem dX5_adjusted_0 : decode cX5_adjusted 0 = .ok (.iload_n 1, 1) := by decide +kernel
theorem dX5_adjusted_1 : decode cX5_adjusted 1 = .ok (.iconst 0, 1) := by decide +kernel
theorem dX5_adjusted_2 : decode cX5_adjusted 2 = .ok (.bipush 6, 2) := by decide +kernel
theorem dX5_adjusted_4 : decode cX5_adjusted 4 = .ok (.invokestatic 37, 3) := by decide +kernel
theorem dX5_adjusted_7 : decode cX5_adjusted 7 = .ok (.ifCond .eq 20, 3) := by decide +kernel
theorem dX5_adjusted_10 : decode cX5_adjusted 10 = .ok (.iload_n 2, 1) := by decide +kernel
theorem dX5_adjusted_11 : decode cX5_adjusted 11 = .ok (.getstatic 55, 3) := by decide +kernel
theorem dX5_adjusted_14 : decode cX5_adjusted 14 = .ok (.iload_n 1, 1) := by decide +kernel
theorem dX5_adjusted_15 : decode cX5_adjusted 15 = .ok (.iaload, 1) := by decide +kernel
theorem dX5_adjusted_16 : decode cX5_adjusted 16 = .ok (.getstatic 58, 3) := by decide +kernel
theorem dX5_adjusted_19 : decode cX5_adjusted 19 = .ok (.iload_n 1, 1) := by decide +kernel
theorem dX5_adjusted_20 : decode cX5_adjusted 20 = .ok (.iaload, 1) := by decide +kernel
theorem dX5_adjusted_21 : decode cX5_adjusted 21 = .ok (.invokestatic 37, 3) := by decide +kernel
theorem dX5_adjusted_24 : decode cX5_adjusted 24 = .ok (.ifCond .ne 6, 3) := by decide +kernel
theorem dX5_adjusted_27 : decode cX5_adjusted 27 = .ok (.bipush (-2), 2) := by decide +kernel
theorem dX5_adjusted_29 : decode cX5_adjusted 29 = .ok (.ireturn, 1) := by decide +kernel
theorem dX5_adjusted_30 : decode cX5_adjusted 30 = .ok (.aload_n 0, 1) := by decide +kernel
theorem dX5_adjusted_31 : decode cX5_adjusted 31 = .ok (.getfield 24, 3) := by decide +kernel
theorem dX5_adjusted_34 : decode cX5_adjusted 34 = .ok (.iload_n 1, 1) := by decide +kernel
theorem dX5_adjusted_35 : decode cX5_adjusted 35 = .ok (.iaload, 1) := by decide +kernel
theorem dX5_adjusted_36 : decode cX5_adjusted 36 = .ok (.istore_n 3, 1) := by decide +kernel
theorem dX5_adjusted_37 : decode cX5_adjusted 37 = .ok (.aload_n 0, 1) := by decide +kernel
theorem dX5_adjusted_38 : decode cX5_adjusted 38 = .ok (.getfield 24, 3) := by decide +kernel
theorem dX5_adjusted_41 : decode cX5_adjusted 41 = .ok (.iload_n 1, 1) := by decide +kernel
theorem dX5_adjusted_42 : decode cX5_adjusted 42 = .ok (.iload_n 2, 1) := by decide +kernel
theorem dX5_adjusted_43 : decode cX5_adjusted 43 = .ok (.iastore, 1) := by decide +kernel
theorem dX5_adjusted_44 : decode cX5_adjusted 44 = .ok (.iload_n 3, 1) := by decide +kernel
theorem dX5_adjusted_45 : decode cX5_adjusted 45 = .ok (.ireturn, 1) := by decide +kernel
theorem dX5_cellsToStand_0 : decode cX5_cellsToStand 0 = .ok (.iload_n 2, 1) := by decide +kernel
theorem dX5_cellsToStand_1 : decode cX5_cellsToStand 1 = .ok (.iload_n 2, 1) := by decide +kernel
theorem dX5_cellsToStand_2 : decode cX5_cellsToStand 2 = .ok (.imul, 1) := by decide +kernel
theorem dX5_cellsToStand_3 : decode cX5_cellsToStand 3 = .ok (.istore_n 3, 1) := by decide +kernel
theorem dX5_cellsToStand_4 : decode cX5_cellsToStand 4 = .ok (.iload_n 1, 1) := by decide +kernel
theorem dX5_cellsToStand_5 : decode cX5_cellsToStand 5 = .ok (.istore 4, 2) := by decide +kernel
theorem dX5_cellsToStand_7 : decode cX5_cellsToStand 7 = .ok (.iload 4, 2) := by decide +kernel
theorem dX5_cellsToStand_9 : decode cX5_cellsToStand 9 = .ok (.aload_n 0, 1) := by decide +kernel
theorem dX5_cellsToStand_10 : decode cX5_cellsToStand 10 = .ok (.getfield 27, 3) := by decide +kernel
theorem dX5_cellsToStand_13 : decode cX5_cellsToStand 13 = .ok (.if_icmp .ge 27, 3) := by decide +kernel
theorem dX5_cellsToStand_16 : decode cX5_cellsToStand 16 = .ok (.iload_n 3, 1) := by decide +kernel
theorem dX5_cellsToStand_17 : decode cX5_cellsToStand 17 = .ok (.aload_n 0, 1) := by decide +kernel
theorem dX5_cellsToStand_18 : decode cX5_cellsToStand 18 = .ok (.iload 4, 2) := by decide +kernel
theorem dX5_cellsToStand_20 : decode cX5_cellsToStand 20 = .ok (.invokevirtual 61, 3) := by decide +kernel
theorem dX5_cellsToStand_23 : decode cX5_cellsToStand 23 = .ok (.isub, 1) := by decide +kernel
theorem dX5_cellsToStand_24 : decode cX5_cellsToStand 24 = .ok (.istore_n 3, 1) := by decide +kernel
theorem dX5_cellsToStand_25 : decode cX5_cellsToStand 25 = .ok (.iload_n 3, 1) := by decide +kernel
theorem dX5_cellsToStand_26 : decode cX5_cellsToStand 26 = .ok (.ifCond .gt 8, 3) := by decide +kernel
theorem dX5_cellsToStand_29 : decode cX5_cellsToStand 29 = .ok (.iload 4, 2) := by decide +kernel
theorem dX5_cellsToStand_31 : decode cX5_cellsToStand 31 = .ok (.iload_n 1, 1) := by decide +kernel
theorem dX5_cellsToStand_32 : decode cX5_cellsToStand 32 = .ok (.isub, 1) := by decide +kernel
theorem dX5_cellsToStand_33 : decode cX5_cellsToStand 33 = .ok (.ireturn, 1) := by decide +kernel
theorem dX5_cellsToStand_34 : decode cX5_cellsToStand 34 = .ok (.iinc 4 1, 3) := by decide +kernel
theorem dX5_cellsToStand_37 : decode cX5_cellsToStand 37 = .ok (.goto (-30), 3) := by decide +kernel
theorem dX5_cellsToStand_40 : decode cX5_cellsToStand 40 = .ok (.iconst (-1), 1) := by decide +kernel
theorem dX5_cellsToStand_41 : decode cX5_cellsToStand 41 = .ok (.ireturn, 1) := by decide +kernel
theorem dX5_fastestToStand_0 : decode cX5_fastestToStand 0 = .ok (.iconst 0, 1) := by decide +kernel
theorem dX5_fastestToStand_1 : decode cX5_fastestToStand 1 = .ok (.istore_n 3, 1) := by decide +kernel
theorem dX5_fastestToStand_2 : decode cX5_fastestToStand 2 = .ok (.iload_n 1, 1) := by decide +kernel
theorem dX5_fastestToStand_3 : decode cX5_fastestToStand 3 = .ok (.istore 4, 2) := by decide +kernel
theorem dX5_fastestToStand_5 : decode cX5_fastestToStand 5 = .ok (.iload 4, 2) := by decide +kernel
theorem dX5_fastestToStand_7 : decode cX5_fastestToStand 7 = .ok (.aload_n 0, 1) := by decide +kernel
theorem dX5_fastestToStand_8 : decode cX5_fastestToStand 8 = .ok (.getfield 27, 3) := by decide +kernel
theorem dX5_fastestToStand_11 : decode cX5_fastestToStand 11 = .ok (.if_icmp .ge 26, 3) := by decide +kernel
theorem dX5_fastestToStand_14 : decode cX5_fastestToStand 14 = .ok (.iload 4, 2) := by decide +kernel
theorem dX5_fastestToStand_16 : decode cX5_fastestToStand 16 = .ok (.iload_n 1, 1) := by decide +kernel
theorem dX5_fastestToStand_17 : decode cX5_fastestToStand 17 = .ok (.isub, 1) := by decide +kernel
theorem dX5_fastestToStand_18 : decode cX5_fastestToStand 18 = .ok (.iload_n 2, 1) := by decide +kernel
theorem dX5_fastestToStand_19 : decode cX5_fastestToStand 19 = .ok (.if_icmp .gt 18, 3) := by decide +kernel
theorem dX5_fastestToStand_22 : decode cX5_fastestToStand 22 = .ok (.iload_n 3, 1) := by decide +kernel
theorem dX5_fastestToStand_23 : decode cX5_fastestToStand 23 = .ok (.aload_n 0, 1) := by decide +kernel
theorem dX5_fastestToStand_24 : decode cX5_fastestToStand 24 = .ok (.iload 4, 2) := by decide +kernel
theorem dX5_fastestToStand_26 : decode cX5_fastestToStand 26 = .ok (.invokevirtual 61, 3) := by decide +kernel
theorem dX5_fastestToStand_29 : decode cX5_fastestToStand 29 = .ok (.iadd, 1) := by decide +kernel
theorem dX5_fastestToStand_30 : decode cX5_fastestToStand 30 = .ok (.istore_n 3, 1) := by decide +kernel
theorem dX5_fastestToStand_31 : decode cX5_fastestToStand 31 = .ok (.iinc 4 1, 3) := by decide +kernel
theorem dX5_fastestToStand_34 : decode cX5_fastestToStand 34 = .ok (.goto (-29), 3) := by decide +kernel
theorem dX5_fastestToStand_37 : decode cX5_fastestToStand 37 = .ok (.bipush 99, 2) := by decide +kernel
theorem dX5_fastestToStand_39 : decode cX5_fastestToStand 39 = .ok (.iload_n 3, 1) := by decide +kernel
theorem dX5_fastestToStand_40 : decode cX5_fastestToStand 40 = .ok (.invokestatic 65, 3) := by decide +kernel
theorem dX5_fastestToStand_43 : decode cX5_fastestToStand 43 = .ok (.invokestatic 68, 3) := by decide +kernel
theorem dX5_fastestToStand_46 : decode cX5_fastestToStand 46 = .ok (.ireturn, 1) := by decide +kernel
theorem dX6_init_0 : decode cX6_init 0 = .ok (.aload_n 0, 1) := by decide +kernel
theorem dX6_init_1 : decode cX6_init 1 = .ok (.invokespecial 3, 3) := by decide +kernel
theorem dX6_init_4 : decode cX6_init 4 = .ok (.return_, 1) := by decide +kernel
theorem dX6_copies_0 : decode cX6_copies 0 = .ok (.aload_n 0, 1) := by decide +kernel
theorem dX6_copies_1 : decode cX6_copies 1 = .ok (.aload_n 1, 1) := by decide +kernel
theorem dX6_copies_2 : decode cX6_copies 2 = .ok (.getfield 9, 3) := by decide +kernel
theorem dX6_copies_5 : decode cX6_copies 5 = .ok (.putfield 9, 3) := by decide +kernel
theorem dX6_copies_8 : decode cX6_copies 8 = .ok (.aload_n 0, 1) := by decide +kernel
theorem dX6_copies_9 : decode cX6_copies 9 = .ok (.aload_n 1, 1) := by decide +kernel
theorem dX6_copies_10 : decode cX6_copies 10 = .ok (.getfield 15, 3) := by decide +kernel
theorem dX6_copies_13 : decode cX6_copies 13 = .ok (.putfield 15, 3) := by decide +kernel
theorem dX6_copies_16 : decode cX6_copies 16 = .ok (.aload_n 0, 1) := by decide +kernel
theorem dX6_copies_17 : decode cX6_copies 17 = .ok (.aload_n 1, 1) := by decide +kernel
theorem dX6_copies_18 : decode cX6_copies 18 = .ok (.getfield 18, 3) := by decide +kernel
theorem dX6_copies_21 : decode cX6_copies 21 = .ok (.putfield 18, 3) := by decide +kernel
theorem dX6_copies_24 : decode cX6_copies 24 = .ok (.aload_n 0, 1) := by decide +kernel
theorem dX6_copies_25 : decode cX6_copies 25 = .ok (.aload_n 1, 1) := by decide +kernel
theorem dX6_copies_26 : decode cX6_copies 26 = .ok (.getfield 21, 3) := by decide +kernel
theorem dX6_copies_29 : decode cX6_copies 29 = .ok (.putfield 21, 3) := by decide +kernel
theorem dX6_copies_32 : decode cX6_copies 32 = .ok (.aload_n 0, 1) := by decide +kernel
theorem dX6_copies_33 : decode cX6_copies 33 = .ok (.aload_n 1, 1) := by decide +kernel
theorem dX6_copies_34 : decode cX6_copies 34 = .ok (.getfield 24, 3) := by decide +kernel
theorem dX6_copies_37 : decode cX6_copies 37 = .ok (.putfield 24, 3) := by decide +kernel
theorem dX6_copies_40 : decode cX6_copies 40 = .ok (.aload_n 0, 1) := by decide +kernel
theorem dX6_copies_41 : decode cX6_copies 41 = .ok (.aload_n 1, 1) := by decide +kernel
theorem dX6_copies_42 : decode cX6_copies 42 = .ok (.getfield 27, 3) := by decide +kernel
theorem dX6_copies_45 : decode cX6_copies 45 = .ok (.putfield 27, 3) := by decide +kernel
theorem dX6_copies_48 : decode cX6_copies 48 = .ok (.aload_n 0, 1) := by decide +kernel
theorem dX6_copies_49 : decode cX6_copies 49 = .ok (.aload_n 1, 1) := by decide +kernel
theorem dX6_copies_50 : decode cX6_copies 50 = .ok (.getfield 30, 3) := by decide +kernel
theorem dX6_copies_53 : decode cX6_copies 53 = .ok (.putfield 30, 3) := by decide +kernel
theorem dX6_copies_56 : decode cX6_copies 56 = .ok (.aload_n 0, 1) := by decide +kernel
theorem dX6_copies_57 : decode cX6_copies 57 = .ok (.aload_n 1, 1) := by decide +kernel
theorem dX6_copies_58 : decode cX6_copies 58 = .ok (.getfield 33, 3) := by decide +kernel
theorem dX6_copies_61 : decode cX6_copies 61 = .ok (.putfield 33, 3) := by decide +kernel
theorem dX6_copies_64 : decode cX6_copies 64 = .ok (.return_, 1) := by decide +kernel
theorem dX6_puts_0 : decode cX6_puts 0 = .ok (.aload_n 0, 1) := by decide +kernel
theorem dX6_puts_1 : decode cX6_puts 1 = .ok (.iload_n 1, 1) := by decide +kernel
theorem dX6_puts_2 : decode cX6_puts 2 = .ok (.putfield 9, 3) := by decide +kernel
theorem dX6_puts_5 : decode cX6_puts 5 = .ok (.aload_n 0, 1) := by decide +kernel
theorem dX6_puts_6 : decode cX6_puts 6 = .ok (.iload_n 2, 1) := by decide +kernel
theorem dX6_puts_7 : decode cX6_puts 7 = .ok (.putfield 15, 3) := by decide +kernel
theorem dX6_puts_10 : decode cX6_puts 10 = .ok (.aload_n 0, 1) := by decide +kernel
theorem dX6_puts_11 : decode cX6_puts 11 = .ok (.iconst 0, 1) := by decide +kernel
theorem dX6_puts_12 : decode cX6_puts 12 = .ok (.putfield 18, 3) := by decide +kernel
theorem dX6_puts_15 : decode cX6_puts 15 = .ok (.aload_n 0, 1) := by decide +kernel
theorem dX6_puts_16 : decode cX6_puts 16 = .ok (.invokevirtual 36, 3) := by decide +kernel
theorem dX6_puts_19 : decode cX6_puts 19 = .ok (.return_, 1) := by decide +kernel
theorem dX6_knowsPlace_0 : decode cX6_knowsPlace 0 = .ok (.aload_n 0, 1) := by decide +kernel
theorem dX6_knowsPlace_1 : decode cX6_knowsPlace 1 = .ok (.sipush 1000, 3) := by decide +kernel
theorem dX6_knowsPlace_4 : decode cX6_knowsPlace 4 = .ok (.aload_n 0, 1) := by decide +kernel
theorem dX6_knowsPlace_5 : decode cX6_knowsPlace 5 = .ok (.getfield 9, 3) := by decide +kernel
theorem dX6_knowsPlace_8 : decode cX6_knowsPlace 8 = .ok (.imul, 1) := by decide +kernel
theorem dX6_knowsPlace_9 : decode cX6_knowsPlace 9 = .ok (.putfield 21, 3) := by decide +kernel
theorem dX6_knowsPlace_12 : decode cX6_knowsPlace 12 = .ok (.aload_n 0, 1) := by decide +kernel
theorem dX6_knowsPlace_13 : decode cX6_knowsPlace 13 = .ok (.sipush 1000, 3) := by decide +kernel
theorem dX6_knowsPlace_16 : decode cX6_knowsPlace 16 = .ok (.aload_n 0, 1) := by decide +kernel
theorem dX6_knowsPlace_17 : decode cX6_knowsPlace 17 = .ok (.getfield 9, 3) := by decide +kernel
theorem dX6_knowsPlace_20 : decode cX6_knowsPlace 20 = .ok (.imul, 1) := by decide +kernel
theorem dX6_knowsPlace_21 : decode cX6_knowsPlace 21 = .ok (.putfield 24, 3) := by decide +kernel
theorem dX6_knowsPlace_24 : decode cX6_knowsPlace 24 = .ok (.return_, 1) := by decide +kernel
theorem dX6_goesOn_0 : decode cX6_goesOn 0 = .ok (.aload_n 0, 1) := by decide +kernel
theorem dX6_goesOn_1 : decode cX6_goesOn 1 = .ok (.iload_n 1, 1) := by decide +kernel
theorem dX6_goesOn_2 : decode cX6_goesOn 2 = .ok (.putfield 15, 3) := by decide +kernel
theorem dX6_goesOn_5 : decode cX6_goesOn 5 = .ok (.aload_n 0, 1) := by decide +kernel
theorem dX6_goesOn_6 : decode cX6_goesOn 6 = .ok (.dup, 1) := by decide +kernel
theorem dX6_goesOn_7 : decode cX6_goesOn 7 = .ok (.getfield 9, 3) := by decide +kernel
theorem dX6_goesOn_10 : decode cX6_goesOn 10 = .ok (.iconst 1, 1) := by decide +kernel
theorem dX6_goesOn_11 : decode cX6_goesOn 11 = .ok (.iadd, 1) := by decide +kernel
theorem dX6_goesOn_12 : decode cX6_goesOn 12 = .ok (.putfield 9, 3) := by decide +kernel
theorem dX6_goesOn_15 : decode cX6_goesOn 15 = .ok (.aload_n 0, 1) := by decide +kernel
theorem dX6_goesOn_16 : decode cX6_goesOn 16 = .ok (.dup, 1) := by decide +kernel
theorem dX6_goesOn_17 : decode cX6_goesOn 17 = .ok (.getfield 33, 3) := by decide +kernel
theorem dX6_goesOn_20 : decode cX6_goesOn 20 = .ok (.iconst 1, 1) := by decide +kernel
theorem dX6_goesOn_21 : decode cX6_goesOn 21 = .ok (.iadd, 1) := by decide +kernel
theorem dX6_goesOn_22 : decode cX6_goesOn 22 = .ok (.putfield 33, 3) := by decide +kernel
theorem dX6_goesOn_25 : decode cX6_goesOn 25 = .ok (.aload_n 0, 1) := by decide +kernel
theorem dX6_goesOn_26 : decode cX6_goesOn 26 = .ok (.dup, 1) := by decide +kernel
theorem dX6_goesOn_27 : decode cX6_goesOn 27 = .ok (.getfield 21, 3) := by decide +kernel
theorem dX6_goesOn_30 : decode cX6_goesOn 30 = .ok (.sipush 1000, 3) := by decide +kernel
theorem dX6_goesOn_33 : decode cX6_goesOn 33 = .ok (.aload_n 2, 1) := by decide +kernel
theorem dX6_goesOn_34 : decode cX6_goesOn 34 = .ok (.getfield 39, 3) := by decide +kernel
theorem dX6_goesOn_37 : decode cX6_goesOn 37 = .ok (.iconst 3, 1) := by decide +kernel
theorem dX6_goesOn_38 : decode cX6_goesOn 38 = .ok (.iaload, 1) := by decide +kernel
theorem dX6_goesOn_39 : decode cX6_goesOn 39 = .ok (.isub, 1) := by decide +kernel
theorem dX6_goesOn_40 : decode cX6_goesOn 40 = .ok (.iadd, 1) := by decide +kernel
theorem dX6_goesOn_41 : decode cX6_goesOn 41 = .ok (.putfield 21, 3) := by decide +kernel
theorem dX6_goesOn_44 : decode cX6_goesOn 44 = .ok (.aload_n 0, 1) := by decide +kernel
theorem dX6_goesOn_45 : decode cX6_goesOn 45 = .ok (.dup, 1) := by decide +kernel
theorem dX6_goesOn_46 : decode cX6_goesOn 46 = .ok (.getfield 24, 3) := by decide +kernel
theorem dX6_goesOn_49 : decode cX6_goesOn 49 = .ok (.sipush 1000, 3) := by decide +kernel
theorem dX6_goesOn_52 : decode cX6_goesOn 52 = .ok (.aload_n 2, 1) := by decide +kernel
theorem dX6_goesOn_53 : decode cX6_goesOn 53 = .ok (.getfield 39, 3) := by decide +kernel
theorem dX6_goesOn_56 : decode cX6_goesOn 56 = .ok (.iconst 3, 1) := by decide +kernel
theorem dX6_goesOn_57 : decode cX6_goesOn 57 = .ok (.iaload, 1) := by decide +kernel
theorem dX6_goesOn_58 : decode cX6_goesOn 58 = .ok (.iadd, 1) := by decide +kernel
theorem dX6_goesOn_59 : decode cX6_goesOn 59 = .ok (.iadd, 1) := by decide +kernel
theorem dX6_goesOn_60 : decode cX6_goesOn 60 = .ok (.putfield 24, 3) := by decide +kernel
theorem dX6_goesOn_63 : decode cX6_goesOn 63 = .ok (.aload_n 2, 1) := by decide +kernel
theorem dX6_goesOn_64 : decode cX6_goesOn 64 = .ok (.getfield 45, 3) := by decide +kernel
theorem dX6_goesOn_67 : decode cX6_goesOn 67 = .ok (.aload_n 0, 1) := by decide +kernel
theorem dX6_goesOn_68 : decode cX6_goesOn 68 = .ok (.getfield 9, 3) := by decide +kernel
theorem dX6_goesOn_71 : decode cX6_goesOn 71 = .ok (.iaload, 1) := by decide +kernel
theorem dX6_goesOn_72 : decode cX6_goesOn 72 = .ok (.iconst 1, 1) := by decide +kernel
theorem dX6_goesOn_73 : decode cX6_goesOn 73 = .ok (.if_icmp .ne 7, 3) := by decide +kernel
theorem dX6_goesOn_76 : decode cX6_goesOn 76 = .ok (.aload_n 0, 1) := by decide +kernel
theorem dX6_goesOn_77 : decode cX6_goesOn 77 = .ok (.invokevirtual 36, 3) := by decide +kernel
theorem dX6_goesOn_80 : decode cX6_goesOn 80 = .ok (.return_, 1) := by decide +kernel
end
section
theorem dX7_init_0 : decode cX7_init 0 = .ok (.aload_n 0, 1) := by decide +kernel
theorem dX7_init_1 : decode cX7_init 1 = .ok (.invokespecial 1, 3) := by decide +kernel
theorem dX7_init_4 : decode cX7_init 4 = .ok (.aload_n 0, 1) := by decide +kernel
theorem dX7_init_5 : decode cX7_init 5 = .ok (.new 7, 3) := by decide +kernel
theorem dX7_init_8 : decode cX7_init 8 = .ok (.dup, 1) := by decide +kernel
theorem dX7_init_9 : decode cX7_init 9 = .ok (.invokespecial 9, 3) := by decide +kernel
theorem dX7_init_12 : decode cX7_init 12 = .ok (.putfield 10, 3) := by decide +kernel
theorem dX7_init_15 : decode cX7_init 15 = .ok (.aload_n 0, 1) := by decide +kernel
theorem dX7_init_16 : decode cX7_init 16 = .ok (.new 16, 3) := by decide +kernel
theorem dX7_init_19 : decode cX7_init 19 = .ok (.dup, 1) := by decide +kernel
theorem dX7_init_20 : decode cX7_init 20 = .ok (.invokespecial 18, 3) := by decide +kernel
theorem dX7_init_23 : decode cX7_init 23 = .ok (.putfield 19, 3) := by decide +kernel
theorem dX7_init_26 : decode cX7_init 26 = .ok (.aload_n 0, 1) := by decide +kernel
theorem dX7_init_27 : decode cX7_init 27 = .ok (.new 23, 3) := by decide +kernel
theorem dX7_init_30 : decode cX7_init 30 = .ok (.dup, 1) := by decide +kernel
theorem dX7_init_31 : decode cX7_init 31 = .ok (.invokespecial 25, 3) := by decide +kernel
theorem dX7_init_34 : decode cX7_init 34 = .ok (.putfield 26, 3) := by decide +kernel
theorem dX7_init_37 : decode cX7_init 37 = .ok (.aload_n 0, 1) := by decide +kernel
theorem dX7_init_38 : decode cX7_init 38 = .ok (.iconst (-1), 1) := by decide +kernel
theorem dX7_init_39 : decode cX7_init 39 = .ok (.putfield 30, 3) := by decide +kernel
theorem dX7_init_42 : decode cX7_init 42 = .ok (.return_, 1) := by decide +kernel
theorem dX7_lengthens_0 : decode cX7_lengthens 0 = .ok (.aload_n 0, 1) := by decide +kernel
theorem dX7_lengthens_1 : decode cX7_lengthens 1 = .ok (.getfield 19, 3) := by decide +kernel
theorem dX7_lengthens_4 : decode cX7_lengthens 4 = .ok (.aload_n 0, 1) := by decide +kernel
theorem dX7_lengthens_5 : decode cX7_lengthens 5 = .ok (.getfield 10, 3) := by decide +kernel
theorem dX7_lengthens_8 : decode cX7_lengthens 8 = .ok (.getfield 34, 3) := by decide +kernel
theorem dX7_lengthens_11 : decode cX7_lengthens 11 = .ok (.invokevirtual 38, 3) := by decide +kernel
theorem dX7_lengthens_14 : decode cX7_lengthens 14 = .ok (.aload_n 0, 1) := by decide +kernel
theorem dX7_lengthens_15 : decode cX7_lengthens 15 = .ok (.aload_n 0, 1) := by decide +kernel
theorem dX7_lengthens_16 : decode cX7_lengthens 16 = .ok (.getfield 10, 3) := by decide +kernel
theorem dX7_lengthens_19 : decode cX7_lengthens 19 = .ok (.iload_n 1, 1) := by decide +kernel
theorem dX7_lengthens_20 : decode cX7_lengthens 20 = .ok (.invokevirtual 42, 3) := by decide +kernel
theorem dX7_lengthens_23 : decode cX7_lengthens 23 = .ok (.invokevirtual 46, 3) := by decide +kernel
theorem dX7_lengthens_26 : decode cX7_lengthens 26 = .ok (.ireturn, 1) := by decide +kernel
theorem dX7_lays_0 : decode cX7_lays 0 = .ok (.aload_n 0, 1) := by decide +kernel
theorem dX7_lays_1 : decode cX7_lays 1 = .ok (.getfield 19, 3) := by decide +kernel
theorem dX7_lays_4 : decode cX7_lays 4 = .ok (.aload_n 0, 1) := by decide +kernel
theorem dX7_lays_5 : decode cX7_lays 5 = .ok (.getfield 10, 3) := by decide +kernel
theorem dX7_lays_8 : decode cX7_lays 8 = .ok (.getfield 34, 3) := by decide +kernel
theorem dX7_lays_11 : decode cX7_lays 11 = .ok (.invokevirtual 38, 3) := by decide +kernel
theorem dX7_lays_14 : decode cX7_lays 14 = .ok (.aload_n 0, 1) := by decide +kernel
theorem dX7_lays_15 : decode cX7_lays 15 = .ok (.aload_n 0, 1) := by decide +kernel
theorem dX7_lays_16 : decode cX7_lays 16 = .ok (.getfield 10, 3) := by decide +kernel
theorem dX7_lays_19 : decode cX7_lays 19 = .ok (.getfield 49, 3) := by decide +kernel
theorem dX7_lays_22 : decode cX7_lays 22 = .ok (.iload_n 1, 1) := by decide +kernel
theorem dX7_lays_23 : decode cX7_lays 23 = .ok (.iload_n 2, 1) := by decide +kernel
theorem dX7_lays_24 : decode cX7_lays 24 = .ok (.iload_n 3, 1) := by decide +kernel
theorem dX7_lays_25 : decode cX7_lays 25 = .ok (.iload 4, 2) := by decide +kernel
theorem dX7_lays_27 : decode cX7_lays 27 = .ok (.invokevirtual 53, 3) := by decide +kernel
theorem dX7_lays_30 : decode cX7_lays 30 = .ok (.invokevirtual 46, 3) := by decide +kernel
theorem dX7_lays_33 : decode cX7_lays 33 = .ok (.ireturn, 1) := by decide +kernel
theorem dX7_beacon_0 : decode cX7_beacon 0 = .ok (.aload_n 0, 1) := by decide +kernel
theorem dX7_beacon_1 : decode cX7_beacon 1 = .ok (.getfield 19, 3) := by decide +kernel
theorem dX7_beacon_4 : decode cX7_beacon 4 = .ok (.aload_n 0, 1) := by decide +kernel
theorem dX7_beacon_5 : decode cX7_beacon 5 = .ok (.getfield 10, 3) := by decide +kernel
theorem dX7_beacon_8 : decode cX7_beacon 8 = .ok (.getfield 34, 3) := by decide +kernel
theorem dX7_beacon_11 : decode cX7_beacon 11 = .ok (.invokevirtual 38, 3) := by decide +kernel
theorem dX7_beacon_14 : decode cX7_beacon 14 = .ok (.aload_n 0, 1) := by decide +kernel
theorem dX7_beacon_15 : decode cX7_beacon 15 = .ok (.aload_n 0, 1) := by decide +kernel
theorem dX7_beacon_16 : decode cX7_beacon 16 = .ok (.getfield 10, 3) := by decide +kernel
theorem dX7_beacon_19 : decode cX7_beacon 19 = .ok (.getfield 49, 3) := by decide +kernel
theorem dX7_beacon_22 : decode cX7_beacon 22 = .ok (.iload_n 1, 1) := by decide +kernel
theorem dX7_beacon_23 : decode cX7_beacon 23 = .ok (.iload_n 2, 1) := by decide +kernel
theorem dX7_beacon_24 : decode cX7_beacon 24 = .ok (.invokevirtual 59, 3) := by decide +kernel
theorem dX7_beacon_27 : decode cX7_beacon 27 = .ok (.invokevirtual 63, 3) := by decide +kernel
theorem dX7_beacon_30 : decode cX7_beacon 30 = .ok (.ireturn, 1) := by decide +kernel
theorem dX7_sets_0 : decode cX7_sets 0 = .ok (.aload_n 0, 1) := by decide +kernel
theorem dX7_sets_1 : decode cX7_sets 1 = .ok (.getfield 19, 3) := by decide +kernel
theorem dX7_sets_4 : decode cX7_sets 4 = .ok (.aload_n 0, 1) := by decide +kernel
theorem dX7_sets_5 : decode cX7_sets 5 = .ok (.getfield 10, 3) := by decide +kernel
theorem dX7_sets_8 : decode cX7_sets 8 = .ok (.getfield 34, 3) := by decide +kernel
theorem dX7_sets_11 : decode cX7_sets 11 = .ok (.invokevirtual 38, 3) := by decide +kernel
theorem dX7_sets_14 : decode cX7_sets 14 = .ok (.aload_n 0, 1) := by decide +kernel
theorem dX7_sets_15 : decode cX7_sets 15 = .ok (.aload_n 0, 1) := by decide +kernel
theorem dX7_sets_16 : decode cX7_sets 16 = .ok (.getfield 10, 3) := by decide +kernel
theorem dX7_sets_19 : decode cX7_sets 19 = .ok (.getfield 49, 3) := by decide +kernel
theorem dX7_sets_22 : decode cX7_sets 22 = .ok (.iload_n 1, 1) := by decide +kernel
theorem dX7_sets_23 : decode cX7_sets 23 = .ok (.iload_n 2, 1) := by decide +kernel
theorem dX7_sets_24 : decode cX7_sets 24 = .ok (.invokevirtual 66, 3) := by decide +kernel
theorem dX7_sets_27 : decode cX7_sets 27 = .ok (.invokevirtual 46, 3) := by decide +kernel
theorem dX7_sets_30 : decode cX7_sets 30 = .ok (.ireturn, 1) := by decide +kernel
theorem dX7_cell_0 : decode cX7_cell 0 = .ok (.aload_n 0, 1) := by decide +kernel
theorem dX7_cell_1 : decode cX7_cell 1 = .ok (.aload_n 0, 1) := by decide +kernel
theorem dX7_cell_2 : decode cX7_cell 2 = .ok (.getfield 10, 3) := by decide +kernel
theorem dX7_cell_5 : decode cX7_cell 5 = .ok (.iload_n 1, 1) := by decide +kernel
theorem dX7_cell_6 : decode cX7_cell 6 = .ok (.iload_n 2, 1) := by decide +kernel
theorem dX7_cell_7 : decode cX7_cell 7 = .ok (.invokevirtual 69, 3) := by decide +kernel
theorem dX7_cell_10 : decode cX7_cell 10 = .ok (.invokevirtual 72, 3) := by decide +kernel
theorem dX7_cell_13 : decode cX7_cell 13 = .ok (.ireturn, 1) := by decide +kernel
theorem dX7_lawful_0 : decode cX7_lawful 0 = .ok (.aload_n 0, 1) := by decide +kernel
theorem dX7_lawful_1 : decode cX7_lawful 1 = .ok (.aload_n 0, 1) := by decide +kernel
theorem dX7_lawful_2 : decode cX7_lawful 2 = .ok (.getfield 10, 3) := by decide +kernel
theorem dX7_lawful_5 : decode cX7_lawful 5 = .ok (.getfield 49, 3) := by decide +kernel
theorem dX7_lawful_8 : decode cX7_lawful 8 = .ok (.iload_n 1, 1) := by decide +kernel
theorem dX7_lawful_9 : decode cX7_lawful 9 = .ok (.invokevirtual 75, 3) := by decide +kernel
theorem dX7_lawful_12 : decode cX7_lawful 12 = .ok (.ifCond .eq 18, 3) := by decide +kernel
theorem dX7_lawful_15 : decode cX7_lawful 15 = .ok (.aload_n 0, 1) := by decide +kernel
theorem dX7_lawful_16 : decode cX7_lawful 16 = .ok (.getfield 10, 3) := by decide +kernel
theorem dX7_lawful_19 : decode cX7_lawful 19 = .ok (.getfield 79, 3) := by decide +kernel
theorem dX7_lawful_22 : decode cX7_lawful 22 = .ok (.getfield 83, 3) := by decide +kernel
theorem dX7_lawful_25 : decode cX7_lawful 25 = .ok (.iload_n 1, 1) := by decide +kernel
theorem dX7_lawful_26 : decode cX7_lawful 26 = .ok (.iaload, 1) := by decide +kernel
theorem dX7_lawful_27 : decode cX7_lawful 27 = .ok (.goto 5, 3) := by decide +kernel
theorem dX7_lawful_30 : decode cX7_lawful 30 = .ok (.bipush (-2), 2) := by decide +kernel
theorem dX7_lawful_32 : decode cX7_lawful 32 = .ok (.invokevirtual 72, 3) := by decide +kernel
theorem dX7_lawful_35 : decode cX7_lawful 35 = .ok (.ireturn, 1) := by decide +kernel
theorem dX7_permitted_0 : decode cX7_permitted 0 = .ok (.aload_n 0, 1) := by decide +kernel
theorem dX7_permitted_1 : decode cX7_permitted 1 = .ok (.aload_n 0, 1) := by decide +kernel
theorem dX7_permitted_2 : decode cX7_permitted 2 = .ok (.getfield 10, 3) := by decide +kernel
theorem dX7_permitted_5 : decode cX7_permitted 5 = .ok (.getfield 49, 3) := by decide +kernel
theorem dX7_permitted_8 : decode cX7_permitted 8 = .ok (.iload_n 1, 1) := by decide +kernel
theorem dX7_permitted_9 : decode cX7_permitted 9 = .ok (.invokevirtual 75, 3) := by decide +kernel
theorem dX7_permitted_12 : decode cX7_permitted 12 = .ok (.ifCond .eq 21, 3) := by decide +kernel
theorem dX7_permitted_15 : decode cX7_permitted 15 = .ok (.aload_n 0, 1) := by decide +kernel
theorem dX7_permitted_16 : decode cX7_permitted 16 = .ok (.getfield 10, 3) := by decide +kernel
theorem dX7_permitted_19 : decode cX7_permitted 19 = .ok (.getfield 79, 3) := by decide +kernel
theorem dX7_permitted_22 : decode cX7_permitted 22 = .ok (.getfield 83, 3) := by decide +kernel
theorem dX7_permitted_25 : decode cX7_permitted 25 = .ok (.iload_n 1, 1) := by decide +kernel
theorem dX7_permitted_26 : decode cX7_permitted 26 = .ok (.iaload, 1) := by decide +kernel
theorem dX7_permitted_27 : decode cX7_permitted 27 = .ok (.invokestatic 89, 3) := by decide +kernel
theorem dX7_permitted_30 : decode cX7_permitted 30 = .ok (.goto 5, 3) := by decide +kernel
theorem dX7_permitted_33 : decode cX7_permitted 33 = .ok (.bipush (-2), 2) := by decide +kernel
theorem dX7_permitted_35 : decode cX7_permitted 35 = .ok (.invokevirtual 72, 3) := by decide +kernel
theorem dX7_permitted_38 : decode cX7_permitted 38 = .ok (.ireturn, 1) := by decide +kernel
theorem dX7_bound_0 : decode cX7_bound 0 = .ok (.aload_n 0, 1) := by decide +kernel
theorem dX7_bound_1 : decode cX7_bound 1 = .ok (.aload_n 0, 1) := by decide +kernel
theorem dX7_bound_2 : decode cX7_bound 2 = .ok (.getfield 10, 3) := by decide +kernel
theorem dX7_bound_5 : decode cX7_bound 5 = .ok (.getfield 49, 3) := by decide +kernel
theorem dX7_bound_8 : decode cX7_bound 8 = .ok (.iload_n 1, 1) := by decide +kernel
theorem dX7_bound_9 : decode cX7_bound 9 = .ok (.invokevirtual 75, 3) := by decide +kernel
theorem dX7_bound_12 : decode cX7_bound 12 = .ok (.ifCond .eq 24, 3) := by decide +kernel
theorem dX7_bound_15 : decode cX7_bound 15 = .ok (.aload_n 0, 1) := by decide +kernel
theorem dX7_bound_16 : decode cX7_bound 16 = .ok (.getfield 10, 3) := by decide +kernel
theorem dX7_bound_19 : decode cX7_bound 19 = .ok (.getfield 79, 3) := by decide +kernel
theorem dX7_bound_22 : decode cX7_bound 22 = .ok (.aload_n 0, 1) := by decide +kernel
theorem dX7_bound_23 : decode cX7_bound 23 = .ok (.getfield 10, 3) := by decide +kernel
theorem dX7_bound_26 : decode cX7_bound 26 = .ok (.getfield 49, 3) := by decide +kernel
theorem dX7_bound_29 : decode cX7_bound 29 = .ok (.iload_n 1, 1) := by decide +kernel
theorem dX7_bound_30 : decode cX7_bound 30 = .ok (.invokevirtual 92, 3) := by decide +kernel
theorem dX7_bound_33 : decode cX7_bound 33 = .ok (.goto 5, 3) := by decide +kernel
theorem dX7_bound_36 : decode cX7_bound 36 = .ok (.bipush (-2), 2) := by decide +kernel
theorem dX7_bound_38 : decode cX7_bound 38 = .ok (.invokevirtual 72, 3) := by decide +kernel
theorem dX7_bound_41 : decode cX7_bound 41 = .ok (.ireturn, 1) := by decide +kernel
theorem dX7_stands_0 : decode cX7_stands 0 = .ok (.aload_n 0, 1) := by decide +kernel
theorem dX7_stands_1 : decode cX7_stands 1 = .ok (.getfield 10, 3) := by decide +kernel
theorem dX7_stands_4 : decode cX7_stands 4 = .ok (.getfield 49, 3) := by decide +kernel
theorem dX7_stands_7 : decode cX7_stands 7 = .ok (.iload_n 1, 1) := by decide +kernel
theorem dX7_stands_8 : decode cX7_stands 8 = .ok (.invokevirtual 75, 3) := by decide +kernel
theorem dX7_stands_11 : decode cX7_stands 11 = .ok (.ifCond .eq 17, 3) := by decide +kernel
theorem dX7_stands_14 : decode cX7_stands 14 = .ok (.iload_n 2, 1) := by decide +kernel
theorem dX7_stands_15 : decode cX7_stands 15 = .ok (.iconst 0, 1) := by decide +kernel
theorem dX7_stands_16 : decode cX7_stands 16 = .ok (.bipush 99, 2) := by decide +kernel
theorem dX7_stands_18 : decode cX7_stands 18 = .ok (.invokestatic 96, 3) := by decide +kernel
theorem dX7_stands_21 : decode cX7_stands 21 = .ok (.ifCond .eq 7, 3) := by decide +kernel
theorem dX7_stands_24 : decode cX7_stands 24 = .ok (.iconst 1, 1) := by decide +kernel
theorem dX7_stands_25 : decode cX7_stands 25 = .ok (.goto 4, 3) := by decide +kernel
theorem dX7_stands_28 : decode cX7_stands 28 = .ok (.iconst 0, 1) := by decide +kernel
theorem dX7_stands_29 : decode cX7_stands 29 = .ok (.istore_n 3, 1) := by decide +kernel
theorem dX7_stands_30 : decode cX7_stands 30 = .ok (.aload_n 0, 1) := by decide +kernel
theorem dX7_stands_31 : decode cX7_stands 31 = .ok (.iload_n 3, 1) := by decide +kernel
theorem dX7_stands_32 : decode cX7_stands 32 = .ok (.ifCond .eq 18, 3) := by decide +kernel
theorem dX7_stands_35 : decode cX7_stands 35 = .ok (.aload_n 0, 1) := by decide +kernel
theorem dX7_stands_36 : decode cX7_stands 36 = .ok (.getfield 10, 3) := by decide +kernel
theorem dX7_stands_39 : decode cX7_stands 39 = .ok (.getfield 49, 3) := by decide +kernel
theorem dX7_stands_42 : decode cX7_stands 42 = .ok (.iload_n 1, 1) := by decide +kernel
theorem dX7_stands_43 : decode cX7_stands 43 = .ok (.iload_n 2, 1) := by decide +kernel
theorem dX7_stands_44 : decode cX7_stands 44 = .ok (.invokevirtual 100, 3) := by decide +kernel
theorem dX7_stands_47 : decode cX7_stands 47 = .ok (.goto 5, 3) := by decide +kernel
theorem dX7_stands_50 : decode cX7_stands 50 = .ok (.bipush (-2), 2) := by decide +kernel
theorem dX7_stands_52 : decode cX7_stands 52 = .ok (.invokevirtual 72, 3) := by decide +kernel
theorem dX7_stands_55 : decode cX7_stands 55 = .ok (.ireturn, 1) := by decide +kernel
theorem dX7_speed_0 : decode cX7_speed 0 = .ok (.aload_n 0, 1) := by decide +kernel
theorem dX7_speed_1 : decode cX7_speed 1 = .ok (.getfield 10, 3) := by decide +kernel
theorem dX7_speed_4 : decode cX7_speed 4 = .ok (.getfield 49, 3) := by decide +kernel
theorem dX7_speed_7 : decode cX7_speed 7 = .ok (.iload_n 1, 1) := by decide +kernel
theorem dX7_speed_8 : decode cX7_speed 8 = .ok (.invokevirtual 75, 3) := by decide +kernel
theorem dX7_speed_11 : decode cX7_speed 11 = .ok (.ifCond .eq 18, 3) := by decide +kernel
theorem dX7_speed_14 : decode cX7_speed 14 = .ok (.iload_n 2, 1) := by decide +kernel
theorem dX7_speed_15 : decode cX7_speed 15 = .ok (.iconst 0, 1) := by decide +kernel
theorem dX7_speed_16 : decode cX7_speed 16 = .ok (.sipush 200, 3) := by decide +kernel
theorem dX7_speed_19 : decode cX7_speed 19 = .ok (.invokestatic 96, 3) := by decide +kernel
theorem dX7_speed_22 : decode cX7_speed 22 = .ok (.ifCond .eq 7, 3) := by decide +kernel
theorem dX7_speed_25 : decode cX7_speed 25 = .ok (.iconst 1, 1) := by decide +kernel
theorem dX7_speed_26 : decode cX7_speed 26 = .ok (.goto 4, 3) := by decide +kernel
theorem dX7_speed_29 : decode cX7_speed 29 = .ok (.iconst 0, 1) := by decide +kernel
theorem dX7_speed_30 : decode cX7_speed 30 = .ok (.istore_n 3, 1) := by decide +kernel
theorem dX7_speed_31 : decode cX7_speed 31 = .ok (.aload_n 0, 1) := by decide +kernel
theorem dX7_speed_32 : decode cX7_speed 32 = .ok (.iload_n 3, 1) := by decide +kernel
theorem dX7_speed_33 : decode cX7_speed 33 = .ok (.ifCond .eq 18, 3) := by decide +kernel
theorem dX7_speed_36 : decode cX7_speed 36 = .ok (.aload_n 0, 1) := by decide +kernel
theorem dX7_speed_37 : decode cX7_speed 37 = .ok (.getfield 10, 3) := by decide +kernel
theorem dX7_speed_40 : decode cX7_speed 40 = .ok (.getfield 49, 3) := by decide +kernel
theorem dX7_speed_43 : decode cX7_speed 43 = .ok (.iload_n 1, 1) := by decide +kernel
theorem dX7_speed_44 : decode cX7_speed 44 = .ok (.iload_n 2, 1) := by decide +kernel
theorem dX7_speed_45 : decode cX7_speed 45 = .ok (.invokevirtual 103, 3) := by decide +kernel
theorem dX7_speed_48 : decode cX7_speed 48 = .ok (.goto 5, 3) := by decide +kernel
theorem dX7_speed_51 : decode cX7_speed 51 = .ok (.bipush (-2), 2) := by decide +kernel
theorem dX7_speed_53 : decode cX7_speed 53 = .ok (.invokevirtual 72, 3) := by decide +kernel
theorem dX7_speed_56 : decode cX7_speed 56 = .ok (.ireturn, 1) := by decide +kernel
theorem dX7_many_0 : decode cX7_many 0 = .ok (.aload_n 0, 1) := by decide +kernel
theorem dX7_many_1 : decode cX7_many 1 = .ok (.iload_n 1, 1) := by decide +kernel
theorem dX7_many_2 : decode cX7_many 2 = .ok (.iconst 0, 1) := by decide +kernel
theorem dX7_many_3 : decode cX7_many 3 = .ok (.bipush 99, 2) := by decide +kernel
theorem dX7_many_5 : decode cX7_many 5 = .ok (.invokestatic 96, 3) := by decide +kernel
theorem dX7_many_8 : decode cX7_many 8 = .ok (.ifCond .eq 14, 3) := by decide +kernel
theorem dX7_many_11 : decode cX7_many 11 = .ok (.aload_n 0, 1) := by decide +kernel
theorem dX7_many_12 : decode cX7_many 12 = .ok (.getfield 10, 3) := by decide +kernel
theorem dX7_many_15 : decode cX7_many 15 = .ok (.iload_n 1, 1) := by decide +kernel
theorem dX7_many_16 : decode cX7_many 16 = .ok (.invokevirtual 106, 3) := by decide +kernel
theorem dX7_many_19 : decode cX7_many 19 = .ok (.goto 5, 3) := by decide +kernel
theorem dX7_many_22 : decode cX7_many 22 = .ok (.bipush (-2), 2) := by decide +kernel
theorem dX7_many_24 : decode cX7_many 24 = .ok (.invokevirtual 72, 3) := by decide +kernel
theorem dX7_many_27 : decode cX7_many 27 = .ok (.ireturn, 1) := by decide +kernel
theorem dX7_places_0 : decode cX7_places 0 = .ok (.aload_n 0, 1) := by decide +kernel
theorem dX7_places_1 : decode cX7_places 1 = .ok (.getfield 19, 3) := by decide +kernel
theorem dX7_places_4 : decode cX7_places 4 = .ok (.aload_n 0, 1) := by decide +kernel
theorem dX7_places_5 : decode cX7_places 5 = .ok (.getfield 10, 3) := by decide +kernel
theorem dX7_places_8 : decode cX7_places 8 = .ok (.getfield 34, 3) := by decide +kernel
theorem dX7_places_11 : decode cX7_places 11 = .ok (.invokevirtual 38, 3) := by decide +kernel
theorem dX7_places_14 : decode cX7_places 14 = .ok (.aload_n 0, 1) := by decide +kernel
theorem dX7_places_15 : decode cX7_places 15 = .ok (.aload_n 0, 1) := by decide +kernel
theorem dX7_places_16 : decode cX7_places 16 = .ok (.getfield 10, 3) := by decide +kernel
theorem dX7_places_19 : decode cX7_places 19 = .ok (.iload_n 1, 1) := by decide +kernel
theorem dX7_places_20 : decode cX7_places 20 = .ok (.iload_n 2, 1) := by decide +kernel
theorem dX7_places_21 : decode cX7_places 21 = .ok (.invokevirtual 109, 3) := by decide +kernel
theorem dX7_places_24 : decode cX7_places 24 = .ok (.invokevirtual 63, 3) := by decide +kernel
theorem dX7_places_27 : decode cX7_places 27 = .ok (.ireturn, 1) := by decide +kernel
theorem dX7_steps_0 : decode cX7_steps 0 = .ok (.aload_n 0, 1) := by decide +kernel
theorem dX7_steps_1 : decode cX7_steps 1 = .ok (.getfield 19, 3) := by decide +kernel
theorem dX7_steps_4 : decode cX7_steps 4 = .ok (.aload_n 0, 1) := by decide +kernel
theorem dX7_steps_5 : decode cX7_steps 5 = .ok (.getfield 10, 3) := by decide +kernel
theorem dX7_steps_8 : decode cX7_steps 8 = .ok (.getfield 34, 3) := by decide +kernel
theorem dX7_steps_11 : decode cX7_steps 11 = .ok (.invokevirtual 38, 3) := by decide +kernel
theorem dX7_steps_14 : decode cX7_steps 14 = .ok (.aload_n 0, 1) := by decide +kernel
theorem dX7_steps_15 : decode cX7_steps 15 = .ok (.aload_n 0, 1) := by decide +kernel
theorem dX7_steps_16 : decode cX7_steps 16 = .ok (.getfield 10, 3) := by decide +kernel
theorem dX7_steps_19 : decode cX7_steps 19 = .ok (.iload_n 1, 1) := by decide +kernel
theorem dX7_steps_20 : decode cX7_steps 20 = .ok (.invokevirtual 112, 3) := by decide +kernel
theorem dX7_steps_23 : decode cX7_steps 23 = .ok (.invokevirtual 63, 3) := by decide +kernel
theorem dX7_steps_26 : decode cX7_steps 26 = .ok (.ireturn, 1) := by decide +kernel
theorem dX7_drives_0 : decode cX7_drives 0 = .ok (.aload_n 0, 1) := by decide +kernel
theorem dX7_drives_1 : decode cX7_drives 1 = .ok (.getfield 19, 3) := by decide +kernel
theorem dX7_drives_4 : decode cX7_drives 4 = .ok (.aload_n 0, 1) := by decide +kernel
theorem dX7_drives_5 : decode cX7_drives 5 = .ok (.getfield 10, 3) := by decide +kernel
theorem dX7_drives_8 : decode cX7_drives 8 = .ok (.getfield 34, 3) := by decide +kernel
theorem dX7_drives_11 : decode cX7_drives 11 = .ok (.invokevirtual 38, 3) := by decide +kernel
theorem dX7_drives_14 : decode cX7_drives 14 = .ok (.aload_n 0, 1) := by decide +kernel
theorem dX7_drives_15 : decode cX7_drives 15 = .ok (.aload_n 0, 1) := by decide +kernel
theorem dX7_drives_16 : decode cX7_drives 16 = .ok (.getfield 10, 3) := by decide +kernel
theorem dX7_drives_19 : decode cX7_drives 19 = .ok (.iload_n 1, 1) := by decide +kernel
theorem dX7_drives_20 : decode cX7_drives 20 = .ok (.invokevirtual 115, 3) := by decide +kernel
theorem dX7_drives_23 : decode cX7_drives 23 = .ok (.invokevirtual 63, 3) := by decide +kernel
theorem dX7_drives_26 : decode cX7_drives 26 = .ok (.ireturn, 1) := by decide +kernel
theorem dX7_frees_0 : decode cX7_frees 0 = .ok (.aload_n 0, 1) := by decide +kernel
theorem dX7_frees_1 : decode cX7_frees 1 = .ok (.getfield 19, 3) := by decide +kernel
theorem dX7_frees_4 : decode cX7_frees 4 = .ok (.aload_n 0, 1) := by decide +kernel
theorem dX7_frees_5 : decode cX7_frees 5 = .ok (.getfield 10, 3) := by decide +kernel
theorem dX7_frees_8 : decode cX7_frees 8 = .ok (.getfield 34, 3) := by decide +kernel
theorem dX7_frees_11 : decode cX7_frees 11 = .ok (.invokevirtual 38, 3) := by decide +kernel
theorem dX7_frees_14 : decode cX7_frees 14 = .ok (.aload_n 0, 1) := by decide +kernel
theorem dX7_frees_15 : decode cX7_frees 15 = .ok (.aload_n 0, 1) := by decide +kernel
theorem dX7_frees_16 : decode cX7_frees 16 = .ok (.getfield 10, 3) := by decide +kernel
theorem dX7_frees_19 : decode cX7_frees 19 = .ok (.invokevirtual 118, 3) := by decide +kernel
theorem dX7_frees_22 : decode cX7_frees 22 = .ok (.invokevirtual 63, 3) := by decide +kernel
theorem dX7_frees_25 : decode cX7_frees 25 = .ok (.ireturn, 1) := by decide +kernel
theorem dX7_train_0 : decode cX7_train 0 = .ok (.aload_n 0, 1) := by decide +kernel
theorem dX7_train_1 : decode cX7_train 1 = .ok (.aload_n 0, 1) := by decide +kernel
theorem dX7_train_2 : decode cX7_train 2 = .ok (.getfield 10, 3) := by decide +kernel
theorem dX7_train_5 : decode cX7_train 5 = .ok (.iload_n 1, 1) := by decide +kernel
theorem dX7_train_6 : decode cX7_train 6 = .ok (.invokevirtual 122, 3) := by decide +kernel
theorem dX7_train_9 : decode cX7_train 9 = .ok (.invokevirtual 72, 3) := by decide +kernel
theorem dX7_train_12 : decode cX7_train 12 = .ok (.ireturn, 1) := by decide +kernel
theorem dX7_type_0 : decode cX7_type 0 = .ok (.aload_n 0, 1) := by decide +kernel
theorem dX7_type_1 : decode cX7_type 1 = .ok (.aload_n 0, 1) := by decide +kernel
theorem dX7_type_2 : decode cX7_type 2 = .ok (.getfield 26, 3) := by decide +kernel
theorem dX7_type_5 : decode cX7_type 5 = .ok (.iload_n 1, 1) := by decide +kernel
theorem dX7_type_6 : decode cX7_type 6 = .ok (.invokevirtual 125, 3) := by decide +kernel
theorem dX7_type_9 : decode cX7_type 9 = .ok (.invokevirtual 72, 3) := by decide +kernel
theorem dX7_type_12 : decode cX7_type 12 = .ok (.ireturn, 1) := by decide +kernel
theorem dX7_clear_0 : decode cX7_clear 0 = .ok (.aload_n 0, 1) := by decide +kernel
theorem dX7_clear_1 : decode cX7_clear 1 = .ok (.getfield 26, 3) := by decide +kernel
theorem dX7_clear_4 : decode cX7_clear 4 = .ok (.invokevirtual 128, 3) := by decide +kernel
theorem dX7_clear_7 : decode cX7_clear 7 = .ok (.ireturn, 1) := by decide +kernel
theorem dX7_does_0 : decode cX7_does 0 = .ok (.aload_n 0, 1) := by decide +kernel
theorem dX7_does_1 : decode cX7_does 1 = .ok (.getfield 26, 3) := by decide +kernel
theorem dX7_does_4 : decode cX7_does 4 = .ok (.invokevirtual 131, 3) := by decide +kernel
theorem dX7_does_7 : decode cX7_does 7 = .ok (.ifCond .ne 29, 3) := by decide +kernel
theorem dX7_does_10 : decode cX7_does 10 = .ok (.aload_n 0, 1) := by decide +kernel
theorem dX7_does_11 : decode cX7_does 11 = .ok (.aload_n 0, 1) := by decide +kernel
theorem dX7_does_12 : decode cX7_does 12 = .ok (.getfield 26, 3) := by decide +kernel
theorem dX7_does_15 : decode cX7_does 15 = .ok (.getfield 135, 3) := by decide +kernel
theorem dX7_does_18 : decode cX7_does 18 = .ok (.aload_n 0, 1) := by decide +kernel
theorem dX7_does_19 : decode cX7_does 19 = .ok (.getfield 26, 3) := by decide +kernel
theorem dX7_does_22 : decode cX7_does 22 = .ok (.getfield 138, 3) := by decide +kernel
theorem dX7_does_25 : decode cX7_does 25 = .ok (.invokevirtual 141, 3) := by decide +kernel
theorem dX7_does_28 : decode cX7_does 28 = .ok (.bipush (-10), 2) := by decide +kernel
theorem dX7_does_30 : decode cX7_does 30 = .ok (.aload_n 0, 1) := by decide +kernel
theorem dX7_does_31 : decode cX7_does 31 = .ok (.getfield 30, 3) := by decide +kernel
theorem dX7_does_34 : decode cX7_does 34 = .ok (.isub, 1) := by decide +kernel
theorem dX7_does_35 : decode cX7_does 35 = .ok (.ireturn, 1) := by decide +kernel
theorem dX7_does_36 : decode cX7_does 36 = .ok (.aload_n 0, 1) := by decide +kernel
theorem dX7_does_37 : decode cX7_does 37 = .ok (.getfield 19, 3) := by decide +kernel
theorem dX7_does_40 : decode cX7_does 40 = .ok (.aload_n 0, 1) := by decide +kernel
theorem dX7_does_41 : decode cX7_does 41 = .ok (.getfield 10, 3) := by decide +kernel
theorem dX7_does_44 : decode cX7_does 44 = .ok (.getfield 34, 3) := by decide +kernel
theorem dX7_does_47 : decode cX7_does 47 = .ok (.invokevirtual 38, 3) := by decide +kernel
theorem dX7_does_50 : decode cX7_does 50 = .ok (.iconst 0, 1) := by decide +kernel
theorem dX7_does_51 : decode cX7_does 51 = .ok (.istore_n 1, 1) := by decide +kernel
theorem dX7_does_52 : decode cX7_does 52 = .ok (.iload_n 1, 1) := by decide +kernel
theorem dX7_does_53 : decode cX7_does 53 = .ok (.aload_n 0, 1) := by decide +kernel
theorem dX7_does_54 : decode cX7_does 54 = .ok (.getfield 26, 3) := by decide +kernel
theorem dX7_does_57 : decode cX7_does 57 = .ok (.getfield 145, 3) := by decide +kernel
theorem dX7_does_60 : decode cX7_does 60 = .ok (.if_icmp .ge 48, 3) := by decide +kernel
theorem dX7_does_63 : decode cX7_does 63 = .ok (.aload_n 0, 1) := by decide +kernel
theorem dX7_does_64 : decode cX7_does 64 = .ok (.iload_n 1, 1) := by decide +kernel
theorem dX7_does_65 : decode cX7_does 65 = .ok (.invokevirtual 148, 3) := by decide +kernel
theorem dX7_does_68 : decode cX7_does 68 = .ok (.bipush (-2), 2) := by decide +kernel
theorem dX7_does_70 : decode cX7_does 70 = .ok (.if_icmp .ne 32, 3) := by decide +kernel
theorem dX7_does_73 : decode cX7_does 73 = .ok (.aload_n 0, 1) := by decide +kernel
theorem dX7_does_74 : decode cX7_does 74 = .ok (.getfield 10, 3) := by decide +kernel
theorem dX7_does_77 : decode cX7_does 77 = .ok (.getfield 34, 3) := by decide +kernel
theorem dX7_does_80 : decode cX7_does 80 = .ok (.aload_n 0, 1) := by decide +kernel
theorem dX7_does_81 : decode cX7_does 81 = .ok (.getfield 19, 3) := by decide +kernel
theorem dX7_does_84 : decode cX7_does 84 = .ok (.invokevirtual 151, 3) := by decide +kernel
theorem dX7_does_87 : decode cX7_does 87 = .ok (.invokevirtual 155, 3) := by decide +kernel
theorem dX7_does_90 : decode cX7_does 90 = .ok (.aload_n 0, 1) := by decide +kernel
theorem dX7_does_91 : decode cX7_does 91 = .ok (.iconst 3, 1) := by decide +kernel
theorem dX7_does_92 : decode cX7_does 92 = .ok (.iload_n 1, 1) := by decide +kernel
theorem dX7_does_93 : decode cX7_does 93 = .ok (.invokevirtual 141, 3) := by decide +kernel
theorem dX7_does_96 : decode cX7_does 96 = .ok (.sipush (-1000), 3) := by decide +kernel
theorem dX7_does_99 : decode cX7_does 99 = .ok (.iload_n 1, 1) := by decide +kernel
theorem dX7_does_100 : decode cX7_does 100 = .ok (.isub, 1) := by decide +kernel
theorem dX7_does_101 : decode cX7_does 101 = .ok (.ireturn, 1) := by decide +kernel
theorem dX7_does_102 : decode cX7_does 102 = .ok (.iinc 1 1, 3) := by decide +kernel
theorem dX7_does_105 : decode cX7_does 105 = .ok (.goto (-53), 3) := by decide +kernel
theorem dX7_does_108 : decode cX7_does 108 = .ok (.aload_n 0, 1) := by decide +kernel
theorem dX7_does_109 : decode cX7_does 109 = .ok (.getfield 10, 3) := by decide +kernel
theorem dX7_does_112 : decode cX7_does 112 = .ok (.invokevirtual 160, 3) := by decide +kernel
theorem dX7_does_115 : decode cX7_does 115 = .ok (.aload_n 0, 1) := by decide +kernel
theorem dX7_does_116 : decode cX7_does 116 = .ok (.getfield 19, 3) := by decide +kernel
theorem dX7_does_119 : decode cX7_does 119 = .ok (.invokevirtual 163, 3) := by decide +kernel
theorem dX7_does_122 : decode cX7_does 122 = .ok (.aload_n 0, 1) := by decide +kernel
theorem dX7_does_123 : decode cX7_does 123 = .ok (.getfield 26, 3) := by decide +kernel
theorem dX7_does_126 : decode cX7_does 126 = .ok (.getfield 145, 3) := by decide +kernel
theorem dX7_does_129 : decode cX7_does 129 = .ok (.ireturn, 1) := by decide +kernel
theorem dX7_why_0 : decode cX7_why 0 = .ok (.aload_n 0, 1) := by decide +kernel
theorem dX7_why_1 : decode cX7_why 1 = .ok (.iload_n 1, 1) := by decide +kernel
theorem dX7_why_2 : decode cX7_why 2 = .ok (.ifCond .ne 10, 3) := by decide +kernel
theorem dX7_why_5 : decode cX7_why 5 = .ok (.aload_n 0, 1) := by decide +kernel
theorem dX7_why_6 : decode cX7_why 6 = .ok (.getfield 166, 3) := by decide +kernel
theorem dX7_why_9 : decode cX7_why 9 = .ok (.goto 17, 3) := by decide +kernel
theorem dX7_why_12 : decode cX7_why 12 = .ok (.iload_n 1, 1) := by decide +kernel
theorem dX7_why_13 : decode cX7_why 13 = .ok (.iconst 1, 1) := by decide +kernel
theorem dX7_why_14 : decode cX7_why 14 = .ok (.if_icmp .ne 10, 3) := by decide +kernel
theorem dX7_why_17 : decode cX7_why 17 = .ok (.aload_n 0, 1) := by decide +kernel
theorem dX7_why_18 : decode cX7_why 18 = .ok (.getfield 30, 3) := by decide +kernel
theorem dX7_why_21 : decode cX7_why 21 = .ok (.goto 5, 3) := by decide +kernel
theorem dX7_why_24 : decode cX7_why 24 = .ok (.bipush (-2), 2) := by decide +kernel
theorem dX7_why_26 : decode cX7_why 26 = .ok (.invokevirtual 72, 3) := by decide +kernel
theorem dX7_why_29 : decode cX7_why 29 = .ok (.ireturn, 1) := by decide +kernel
theorem dX7_back_0 : decode cX7_back 0 = .ok (.aload_n 0, 1) := by decide +kernel
theorem dX7_back_1 : decode cX7_back 1 = .ok (.getfield 19, 3) := by decide +kernel
theorem dX7_back_4 : decode cX7_back 4 = .ok (.getfield 167, 3) := by decide +kernel
theorem dX7_back_7 : decode cX7_back 7 = .ok (.ifCond .ne 10, 3) := by decide +kernel
theorem dX7_back_10 : decode cX7_back 10 = .ok (.aload_n 0, 1) := by decide +kernel
theorem dX7_back_11 : decode cX7_back 11 = .ok (.bipush (-3), 2) := by decide +kernel
theorem dX7_back_13 : decode cX7_back 13 = .ok (.invokevirtual 72, 3) := by decide +kernel
theorem dX7_back_16 : decode cX7_back 16 = .ok (.ireturn, 1) := by decide +kernel
theorem dX7_back_17 : decode cX7_back 17 = .ok (.aload_n 0, 1) := by decide +kernel
theorem dX7_back_18 : decode cX7_back 18 = .ok (.getfield 10, 3) := by decide +kernel
theorem dX7_back_21 : decode cX7_back 21 = .ok (.getfield 34, 3) := by decide +kernel
theorem dX7_back_24 : decode cX7_back 24 = .ok (.aload_n 0, 1) := by decide +kernel
theorem dX7_back_25 : decode cX7_back 25 = .ok (.getfield 19, 3) := by decide +kernel
theorem dX7_back_28 : decode cX7_back 28 = .ok (.invokevirtual 170, 3) := by decide +kernel
theorem dX7_back_31 : decode cX7_back 31 = .ok (.invokevirtual 155, 3) := by decide +kernel
theorem dX7_back_34 : decode cX7_back 34 = .ok (.aload_n 0, 1) := by decide +kernel
theorem dX7_back_35 : decode cX7_back 35 = .ok (.getfield 10, 3) := by decide +kernel
theorem dX7_back_38 : decode cX7_back 38 = .ok (.invokevirtual 160, 3) := by decide +kernel
theorem dX7_back_41 : decode cX7_back 41 = .ok (.aload_n 0, 1) := by decide +kernel
theorem dX7_back_42 : decode cX7_back 42 = .ok (.getfield 19, 3) := by decide +kernel
theorem dX7_back_45 : decode cX7_back 45 = .ok (.getfield 167, 3) := by decide +kernel
theorem dX7_back_48 : decode cX7_back 48 = .ok (.ireturn, 1) := by decide +kernel
theorem dX7_told_0 : decode cX7_told 0 = .ok (.aload_n 0, 1) := by decide +kernel
theorem dX7_told_1 : decode cX7_told 1 = .ok (.aload_n 0, 1) := by decide +kernel
theorem dX7_told_2 : decode cX7_told 2 = .ok (.iload_n 1, 1) := by decide +kernel
theorem dX7_told_3 : decode cX7_told 3 = .ok (.invokevirtual 173, 3) := by decide +kernel
theorem dX7_told_6 : decode cX7_told 6 = .ok (.invokevirtual 72, 3) := by decide +kernel
theorem dX7_told_9 : decode cX7_told 9 = .ok (.ireturn, 1) := by decide +kernel
theorem dX7_digest_0 : decode cX7_digest 0 = .ok (.ldc2_w 176, 3) := by decide +kernel
theorem dX7_digest_3 : decode cX7_digest 3 = .ok (.lstore_n 1, 1) := by decide +kernel
theorem dX7_digest_4 : decode cX7_digest 4 = .ok (.iconst 0, 1) := by decide +kernel
theorem dX7_digest_5 : decode cX7_digest 5 = .ok (.istore_n 3, 1) := by decide +kernel
theorem dX7_digest_6 : decode cX7_digest 6 = .ok (.iload_n 3, 1) := by decide +kernel
theorem dX7_digest_7 : decode cX7_digest 7 = .ok (.bipush 13, 2) := by decide +kernel
theorem dX7_digest_9 : decode cX7_digest 9 = .ok (.if_icmp .ge 22, 3) := by decide +kernel
theorem dX7_digest_12 : decode cX7_digest 12 = .ok (.ldc2_w 178, 3) := by decide +kernel
theorem dX7_digest_15 : decode cX7_digest 15 = .ok (.lload_n 1, 1) := by decide +kernel
theorem dX7_digest_16 : decode cX7_digest 16 = .ok (.lmul, 1) := by decide +kernel
theorem dX7_digest_17 : decode cX7_digest 17 = .ok (.aload_n 0, 1) := by decide +kernel
theorem dX7_digest_18 : decode cX7_digest 18 = .ok (.iload_n 3, 1) := by decide +kernel
theorem dX7_digest_19 : decode cX7_digest 19 = .ok (.invokevirtual 173, 3) := by decide +kernel
theorem dX7_digest_22 : decode cX7_digest 22 = .ok (.i2l, 1) := by decide +kernel
theorem dX7_digest_23 : decode cX7_digest 23 = .ok (.ladd, 1) := by decide +kernel
theorem dX7_digest_24 : decode cX7_digest 24 = .ok (.lstore_n 1, 1) := by decide +kernel
theorem dX7_digest_25 : decode cX7_digest 25 = .ok (.iinc 3 1, 3) := by decide +kernel
theorem dX7_digest_28 : decode cX7_digest 28 = .ok (.goto (-22), 3) := by decide +kernel
theorem dX7_digest_31 : decode cX7_digest 31 = .ok (.ldc2_w 178, 3) := by decide +kernel
theorem dX7_digest_34 : decode cX7_digest 34 = .ok (.lload_n 1, 1) := by decide +kernel
theorem dX7_digest_35 : decode cX7_digest 35 = .ok (.lmul, 1) := by decide +kernel
theorem dX7_digest_36 : decode cX7_digest 36 = .ok (.aload_n 0, 1) := by decide +kernel
theorem dX7_digest_37 : decode cX7_digest 37 = .ok (.getfield 166, 3) := by decide +kernel
theorem dX7_digest_40 : decode cX7_digest 40 = .ok (.i2l, 1) := by decide +kernel
theorem dX7_digest_41 : decode cX7_digest 41 = .ok (.ladd, 1) := by decide +kernel
theorem dX7_digest_42 : decode cX7_digest 42 = .ok (.lstore_n 1, 1) := by decide +kernel
theorem dX7_digest_43 : decode cX7_digest 43 = .ok (.ldc2_w 178, 3) := by decide +kernel
theorem dX7_digest_46 : decode cX7_digest 46 = .ok (.lload_n 1, 1) := by decide +kernel
theorem dX7_digest_47 : decode cX7_digest 47 = .ok (.lmul, 1) := by decide +kernel
theorem dX7_digest_48 : decode cX7_digest 48 = .ok (.aload_n 0, 1) := by decide +kernel
theorem dX7_digest_49 : decode cX7_digest 49 = .ok (.getfield 30, 3) := by decide +kernel
theorem dX7_digest_52 : decode cX7_digest 52 = .ok (.i2l, 1) := by decide +kernel
theorem dX7_digest_53 : decode cX7_digest 53 = .ok (.ladd, 1) := by decide +kernel
theorem dX7_digest_54 : decode cX7_digest 54 = .ok (.lstore_n 1, 1) := by decide +kernel
theorem dX7_digest_55 : decode cX7_digest 55 = .ok (.iconst 0, 1) := by decide +kernel
theorem dX7_digest_56 : decode cX7_digest 56 = .ok (.istore_n 3, 1) := by decide +kernel
theorem dX7_digest_57 : decode cX7_digest 57 = .ok (.iload_n 3, 1) := by decide +kernel
theorem dX7_digest_58 : decode cX7_digest 58 = .ok (.aload_n 0, 1) := by decide +kernel
theorem dX7_digest_59 : decode cX7_digest 59 = .ok (.getfield 10, 3) := by decide +kernel
theorem dX7_digest_62 : decode cX7_digest 62 = .ok (.getfield 49, 3) := by decide +kernel
theorem dX7_digest_65 : decode cX7_digest 65 = .ok (.getfield 180, 3) := by decide +kernel
theorem dX7_digest_68 : decode cX7_digest 68 = .ok (.if_icmp .ge 62, 3) := by decide +kernel
theorem dX7_digest_71 : decode cX7_digest 71 = .ok (.iconst 0, 1) := by decide +kernel
theorem dX7_digest_72 : decode cX7_digest 72 = .ok (.istore 4, 2) := by decide +kernel
theorem dX7_digest_74 : decode cX7_digest 74 = .ok (.iload 4, 2) := by decide +kernel
theorem dX7_digest_76 : decode cX7_digest 76 = .ok (.iconst 2, 1) := by decide +kernel
theorem dX7_digest_77 : decode cX7_digest 77 = .ok (.if_icmp .gt 27, 3) := by decide +kernel
theorem dX7_digest_80 : decode cX7_digest 80 = .ok (.ldc2_w 178, 3) := by decide +kernel
theorem dX7_digest_83 : decode cX7_digest 83 = .ok (.lload_n 1, 1) := by decide +kernel
theorem dX7_digest_84 : decode cX7_digest 84 = .ok (.lmul, 1) := by decide +kernel
theorem dX7_digest_85 : decode cX7_digest 85 = .ok (.aload_n 0, 1) := by decide +kernel
theorem dX7_digest_86 : decode cX7_digest 86 = .ok (.getfield 10, 3) := by decide +kernel
theorem dX7_digest_89 : decode cX7_digest 89 = .ok (.iload_n 3, 1) := by decide +kernel
theorem dX7_digest_90 : decode cX7_digest 90 = .ok (.iload 4, 2) := by decide +kernel
theorem dX7_digest_92 : decode cX7_digest 92 = .ok (.invokevirtual 69, 3) := by decide +kernel
theorem dX7_digest_95 : decode cX7_digest 95 = .ok (.i2l, 1) := by decide +kernel
theorem dX7_digest_96 : decode cX7_digest 96 = .ok (.ladd, 1) := by decide +kernel
theorem dX7_digest_97 : decode cX7_digest 97 = .ok (.lstore_n 1, 1) := by decide +kernel
theorem dX7_digest_98 : decode cX7_digest 98 = .ok (.iinc 4 1, 3) := by decide +kernel
theorem dX7_digest_101 : decode cX7_digest 101 = .ok (.goto (-27), 3) := by decide +kernel
theorem dX7_digest_104 : decode cX7_digest 104 = .ok (.ldc2_w 178, 3) := by decide +kernel
theorem dX7_digest_107 : decode cX7_digest 107 = .ok (.lload_n 1, 1) := by decide +kernel
theorem dX7_digest_108 : decode cX7_digest 108 = .ok (.lmul, 1) := by decide +kernel
theorem dX7_digest_109 : decode cX7_digest 109 = .ok (.aload_n 0, 1) := by decide +kernel
theorem dX7_digest_110 : decode cX7_digest 110 = .ok (.getfield 10, 3) := by decide +kernel
theorem dX7_digest_113 : decode cX7_digest 113 = .ok (.getfield 79, 3) := by decide +kernel
theorem dX7_digest_116 : decode cX7_digest 116 = .ok (.getfield 83, 3) := by decide +kernel
theorem dX7_digest_119 : decode cX7_digest 119 = .ok (.iload_n 3, 1) := by decide +kernel
theorem dX7_digest_120 : decode cX7_digest 120 = .ok (.iaload, 1) := by decide +kernel
theorem dX7_digest_121 : decode cX7_digest 121 = .ok (.i2l, 1) := by decide +kernel
theorem dX7_digest_122 : decode cX7_digest 122 = .ok (.ladd, 1) := by decide +kernel
theorem dX7_digest_123 : decode cX7_digest 123 = .ok (.lstore_n 1, 1) := by decide +kernel
theorem dX7_digest_124 : decode cX7_digest 124 = .ok (.iinc 3 1, 3) := by decide +kernel
theorem dX7_digest_127 : decode cX7_digest 127 = .ok (.goto (-70), 3) := by decide +kernel
theorem dX7_digest_130 : decode cX7_digest 130 = .ok (.iconst 0, 1) := by decide +kernel
theorem dX7_digest_131 : decode cX7_digest 131 = .ok (.istore_n 3, 1) := by decide +kernel
theorem dX7_digest_132 : decode cX7_digest 132 = .ok (.iload_n 3, 1) := by decide +kernel
theorem dX7_digest_133 : decode cX7_digest 133 = .ok (.bipush 13, 2) := by decide +kernel
theorem dX7_digest_135 : decode cX7_digest 135 = .ok (.if_icmp .ge 25, 3) := by decide +kernel
theorem dX7_digest_138 : decode cX7_digest 138 = .ok (.ldc2_w 178, 3) := by decide +kernel
theorem dX7_digest_141 : decode cX7_digest 141 = .ok (.lload_n 1, 1) := by decide +kernel
theorem dX7_digest_142 : decode cX7_digest 142 = .ok (.lmul, 1) := by decide +kernel
theorem dX7_digest_143 : decode cX7_digest 143 = .ok (.aload_n 0, 1) := by decide +kernel
theorem dX7_digest_144 : decode cX7_digest 144 = .ok (.getfield 10, 3) := by decide +kernel
theorem dX7_digest_147 : decode cX7_digest 147 = .ok (.iload_n 3, 1) := by decide +kernel
theorem dX7_digest_148 : decode cX7_digest 148 = .ok (.invokevirtual 122, 3) := by decide +kernel
theorem dX7_digest_151 : decode cX7_digest 151 = .ok (.i2l, 1) := by decide +kernel
theorem dX7_digest_152 : decode cX7_digest 152 = .ok (.ladd, 1) := by decide +kernel
theorem dX7_digest_153 : decode cX7_digest 153 = .ok (.lstore_n 1, 1) := by decide +kernel
theorem dX7_digest_154 : decode cX7_digest 154 = .ok (.iinc 3 1, 3) := by decide +kernel
theorem dX7_digest_157 : decode cX7_digest 157 = .ok (.goto (-25), 3) := by decide +kernel
theorem dX7_digest_160 : decode cX7_digest 160 = .ok (.lload_n 1, 1) := by decide +kernel
theorem dX7_digest_161 : decode cX7_digest 161 = .ok (.lreturn, 1) := by decide +kernel
theorem dX7_counted_0 : decode cX7_counted 0 = .ok (.iload_n 1, 1) := by decide +kernel
theorem dX7_counted_1 : decode cX7_counted 1 = .ok (.bipush (-2), 2) := by decide +kernel
theorem dX7_counted_3 : decode cX7_counted 3 = .ok (.if_icmp .ne 16, 3) := by decide +kernel
theorem dX7_counted_6 : decode cX7_counted 6 = .ok (.aload_n 0, 1) := by decide +kernel
theorem dX7_counted_7 : decode cX7_counted 7 = .ok (.dup, 1) := by decide +kernel
theorem dX7_counted_8 : decode cX7_counted 8 = .ok (.getfield 183, 3) := by decide +kernel
theorem dX7_counted_11 : decode cX7_counted 11 = .ok (.iconst 1, 1) := by decide +kernel
theorem dX7_counted_12 : decode cX7_counted 12 = .ok (.iadd, 1) := by decide +kernel
theorem dX7_counted_13 : decode cX7_counted 13 = .ok (.putfield 183, 3) := by decide +kernel
theorem dX7_counted_16 : decode cX7_counted 16 = .ok (.goto 38, 3) := by decide +kernel
theorem dX7_counted_19 : decode cX7_counted 19 = .ok (.iload_n 1, 1) := by decide +kernel
theorem dX7_counted_20 : decode cX7_counted 20 = .ok (.bipush (-3), 2) := by decide +kernel
theorem dX7_counted_22 : decode cX7_counted 22 = .ok (.if_icmp .ne 16, 3) := by decide +kernel
theorem dX7_counted_25 : decode cX7_counted 25 = .ok (.aload_n 0, 1) := by decide +kernel
theorem dX7_counted_26 : decode cX7_counted 26 = .ok (.dup, 1) := by decide +kernel
theorem dX7_counted_27 : decode cX7_counted 27 = .ok (.getfield 186, 3) := by decide +kernel
theorem dX7_counted_30 : decode cX7_counted 30 = .ok (.iconst 1, 1) := by decide +kernel
theorem dX7_counted_31 : decode cX7_counted 31 = .ok (.iadd, 1) := by decide +kernel
theorem dX7_counted_32 : decode cX7_counted 32 = .ok (.putfield 186, 3) := by decide +kernel
theorem dX7_counted_35 : decode cX7_counted 35 = .ok (.goto 19, 3) := by decide +kernel
theorem dX7_counted_38 : decode cX7_counted 38 = .ok (.iload_n 1, 1) := by decide +kernel
theorem dX7_counted_39 : decode cX7_counted 39 = .ok (.bipush (-4), 2) := by decide +kernel
theorem dX7_counted_41 : decode cX7_counted 41 = .ok (.if_icmp .ne 13, 3) := by decide +kernel
theorem dX7_counted_44 : decode cX7_counted 44 = .ok (.aload_n 0, 1) := by decide +kernel
theorem dX7_counted_45 : decode cX7_counted 45 = .ok (.dup, 1) := by decide +kernel
theorem dX7_counted_46 : decode cX7_counted 46 = .ok (.getfield 189, 3) := by decide +kernel
theorem dX7_counted_49 : decode cX7_counted 49 = .ok (.iconst 1, 1) := by decide +kernel
theorem dX7_counted_50 : decode cX7_counted 50 = .ok (.iadd, 1) := by decide +kernel
theorem dX7_counted_51 : decode cX7_counted 51 = .ok (.putfield 189, 3) := by decide +kernel
theorem dX7_counted_54 : decode cX7_counted 54 = .ok (.iload_n 1, 1) := by decide +kernel
theorem dX7_counted_55 : decode cX7_counted 55 = .ok (.ireturn, 1) := by decide +kernel
theorem dX7_settled_0 : decode cX7_settled 0 = .ok (.iload_n 1, 1) := by decide +kernel
theorem dX7_settled_1 : decode cX7_settled 1 = .ok (.bipush (-2), 2) := by decide +kernel
theorem dX7_settled_3 : decode cX7_settled 3 = .ok (.if_icmp .eq 16, 3) := by decide +kernel
theorem dX7_settled_6 : decode cX7_settled 6 = .ok (.iload_n 1, 1) := by decide +kernel
theorem dX7_settled_7 : decode cX7_settled 7 = .ok (.bipush (-3), 2) := by decide +kernel
theorem dX7_settled_9 : decode cX7_settled 9 = .ok (.if_icmp .eq 10, 3) := by decide +kernel
theorem dX7_settled_12 : decode cX7_settled 12 = .ok (.aload_n 0, 1) := by decide +kernel
theorem dX7_settled_13 : decode cX7_settled 13 = .ok (.getfield 19, 3) := by decide +kernel
theorem dX7_settled_16 : decode cX7_settled 16 = .ok (.invokevirtual 163, 3) := by decide +kernel
theorem dX7_settled_19 : decode cX7_settled 19 = .ok (.aload_n 0, 1) := by decide +kernel
theorem dX7_settled_20 : decode cX7_settled 20 = .ok (.iload_n 1, 1) := by decide +kernel
theorem dX7_settled_21 : decode cX7_settled 21 = .ok (.invokevirtual 72, 3) := by decide +kernel
theorem dX7_settled_24 : decode cX7_settled 24 = .ok (.ireturn, 1) := by decide +kernel
theorem dX7_redrawn_0 : decode cX7_redrawn 0 = .ok (.iload_n 1, 1) := by decide +kernel
theorem dX7_redrawn_1 : decode cX7_redrawn 1 = .ok (.bipush (-2), 2) := by decide +kernel
theorem dX7_redrawn_3 : decode cX7_redrawn 3 = .ok (.if_icmp .eq 10, 3) := by decide +kernel
theorem dX7_redrawn_6 : decode cX7_redrawn 6 = .ok (.aload_n 0, 1) := by decide +kernel
theorem dX7_redrawn_7 : decode cX7_redrawn 7 = .ok (.getfield 10, 3) := by decide +kernel
theorem dX7_redrawn_10 : decode cX7_redrawn 10 = .ok (.invokevirtual 160, 3) := by decide +kernel
theorem dX7_redrawn_13 : decode cX7_redrawn 13 = .ok (.aload_n 0, 1) := by decide +kernel
theorem dX7_redrawn_14 : decode cX7_redrawn 14 = .ok (.iload_n 1, 1) := by decide +kernel
theorem dX7_redrawn_15 : decode cX7_redrawn 15 = .ok (.invokevirtual 63, 3) := by decide +kernel
theorem dX7_redrawn_18 : decode cX7_redrawn 18 = .ok (.ireturn, 1) := by decide +kernel
theorem dX7_blames_0 : decode cX7_blames 0 = .ok (.aload_n 0, 1) := by decide +kernel
theorem dX7_blames_1 : decode cX7_blames 1 = .ok (.iload_n 1, 1) := by decide +kernel
theorem dX7_blames_2 : decode cX7_blames 2 = .ok (.putfield 166, 3) := by decide +kernel
theorem dX7_blames_5 : decode cX7_blames 5 = .ok (.aload_n 0, 1) := by decide +kernel
theorem dX7_blames_6 : decode cX7_blames 6 = .ok (.iload_n 2, 1) := by decide +kernel
theorem dX7_blames_7 : decode cX7_blames 7 = .ok (.putfield 30, 3) := by decide +kernel
theorem dX7_blames_10 : decode cX7_blames 10 = .ok (.return_, 1) := by decide +kernel
theorem dX7_obeys_0 : decode cX7_obeys 0 = .ok (.aload_n 0, 1) := by decide +kernel
theorem dX7_obeys_1 : decode cX7_obeys 1 = .ok (.getfield 26, 3) := by decide +kernel
theorem dX7_obeys_4 : decode cX7_obeys 4 = .ok (.iload_n 1, 1) := by decide +kernel
theorem dX7_obeys_5 : decode cX7_obeys 5 = .ok (.iconst 0, 1) := by decide +kernel
theorem dX7_obeys_6 : decode cX7_obeys 6 = .ok (.invokevirtual 192, 3) := by decide +kernel
theorem dX7_obeys_9 : decode cX7_obeys 9 = .ok (.istore_n 2, 1) := by decide +kernel
theorem dX7_obeys_10 : decode cX7_obeys 10 = .ok (.aload_n 0, 1) := by decide +kernel
theorem dX7_obeys_11 : decode cX7_obeys 11 = .ok (.getfield 26, 3) := by decide +kernel
theorem dX7_obeys_14 : decode cX7_obeys 14 = .ok (.iload_n 1, 1) := by decide +kernel
theorem dX7_obeys_15 : decode cX7_obeys 15 = .ok (.iconst 1, 1) := by decide +kernel
theorem dX7_obeys_16 : decode cX7_obeys 16 = .ok (.invokevirtual 192, 3) := by decide +kernel
theorem dX7_obeys_19 : decode cX7_obeys 19 = .ok (.istore_n 3, 1) := by decide +kernel
theorem dX7_obeys_20 : decode cX7_obeys 20 = .ok (.aload_n 0, 1) := by decide +kernel
theorem dX7_obeys_21 : decode cX7_obeys 21 = .ok (.getfield 26, 3) := by decide +kernel
theorem dX7_obeys_24 : decode cX7_obeys 24 = .ok (.iload_n 1, 1) := by decide +kernel
theorem dX7_obeys_25 : decode cX7_obeys 25 = .ok (.iconst 2, 1) := by decide +kernel
theorem dX7_obeys_26 : decode cX7_obeys 26 = .ok (.invokevirtual 192, 3) := by decide +kernel
theorem dX7_obeys_29 : decode cX7_obeys 29 = .ok (.istore 4, 2) := by decide +kernel
theorem dX7_obeys_31 : decode cX7_obeys 31 = .ok (.aload_n 0, 1) := by decide +kernel
theorem dX7_obeys_32 : decode cX7_obeys 32 = .ok (.getfield 26, 3) := by decide +kernel
theorem dX7_obeys_35 : decode cX7_obeys 35 = .ok (.getfield 195, 3) := by decide +kernel
theorem dX7_obeys_38 : decode cX7_obeys 38 = .ok (.iload_n 1, 1) := by decide +kernel
theorem dX7_obeys_39 : decode cX7_obeys 39 = .ok (.iaload, 1) := by decide +kernel
theorem dX7_obeys_40 : decode cX7_obeys 40 = .ok (.tableswitch 154 0 7 #[48, 57, 73, 89, 102, 115, 128, 141], 48) := by decide +kernel
theorem dX7_obeys_88 : decode cX7_obeys 88 = .ok (.aload_n 0, 1) := by decide +kernel
theorem dX7_obeys_89 : decode cX7_obeys 89 = .ok (.getfield 10, 3) := by decide +kernel
theorem dX7_obeys_92 : decode cX7_obeys 92 = .ok (.iload_n 2, 1) := by decide +kernel
theorem dX7_obeys_93 : decode cX7_obeys 93 = .ok (.invokevirtual 42, 3) := by decide +kernel
theorem dX7_obeys_96 : decode cX7_obeys 96 = .ok (.ireturn, 1) := by decide +kernel
theorem dX7_obeys_97 : decode cX7_obeys 97 = .ok (.aload_n 0, 1) := by decide +kernel
theorem dX7_obeys_98 : decode cX7_obeys 98 = .ok (.getfield 10, 3) := by decide +kernel
theorem dX7_obeys_101 : decode cX7_obeys 101 = .ok (.getfield 49, 3) := by decide +kernel
theorem dX7_obeys_104 : decode cX7_obeys 104 = .ok (.iconst 0, 1) := by decide +kernel
theorem dX7_obeys_105 : decode cX7_obeys 105 = .ok (.iload_n 2, 1) := by decide +kernel
theorem dX7_obeys_106 : decode cX7_obeys 106 = .ok (.iload_n 3, 1) := by decide +kernel
theorem dX7_obeys_107 : decode cX7_obeys 107 = .ok (.iload 4, 2) := by decide +kernel
theorem dX7_obeys_109 : decode cX7_obeys 109 = .ok (.invokevirtual 53, 3) := by decide +kernel
theorem dX7_obeys_112 : decode cX7_obeys 112 = .ok (.ireturn, 1) := by decide +kernel
theorem dX7_obeys_113 : decode cX7_obeys 113 = .ok (.aload_n 0, 1) := by decide +kernel
theorem dX7_obeys_114 : decode cX7_obeys 114 = .ok (.getfield 10, 3) := by decide +kernel
theorem dX7_obeys_117 : decode cX7_obeys 117 = .ok (.getfield 49, 3) := by decide +kernel
theorem dX7_obeys_120 : decode cX7_obeys 120 = .ok (.iconst 1, 1) := by decide +kernel
theorem dX7_obeys_121 : decode cX7_obeys 121 = .ok (.iload_n 2, 1) := by decide +kernel
theorem dX7_obeys_122 : decode cX7_obeys 122 = .ok (.iload_n 3, 1) := by decide +kernel
theorem dX7_obeys_123 : decode cX7_obeys 123 = .ok (.iload 4, 2) := by decide +kernel
theorem dX7_obeys_125 : decode cX7_obeys 125 = .ok (.invokevirtual 53, 3) := by decide +kernel
theorem dX7_obeys_128 : decode cX7_obeys 128 = .ok (.ireturn, 1) := by decide +kernel
theorem dX7_obeys_129 : decode cX7_obeys 129 = .ok (.aload_n 0, 1) := by decide +kernel
theorem dX7_obeys_130 : decode cX7_obeys 130 = .ok (.getfield 10, 3) := by decide +kernel
theorem dX7_obeys_133 : decode cX7_obeys 133 = .ok (.getfield 49, 3) := by decide +kernel
theorem dX7_obeys_136 : decode cX7_obeys 136 = .ok (.iload_n 2, 1) := by decide +kernel
theorem dX7_obeys_137 : decode cX7_obeys 137 = .ok (.iconst 1, 1) := by decide +kernel
theorem dX7_obeys_138 : decode cX7_obeys 138 = .ok (.invokevirtual 59, 3) := by decide +kernel
theorem dX7_obeys_141 : decode cX7_obeys 141 = .ok (.ireturn, 1) := by decide +kernel
theorem dX7_obeys_142 : decode cX7_obeys 142 = .ok (.aload_n 0, 1) := by decide +kernel
theorem dX7_obeys_143 : decode cX7_obeys 143 = .ok (.getfield 10, 3) := by decide +kernel
theorem dX7_obeys_146 : decode cX7_obeys 146 = .ok (.getfield 49, 3) := by decide +kernel
theorem dX7_obeys_149 : decode cX7_obeys 149 = .ok (.iconst 0, 1) := by decide +kernel
theorem dX7_obeys_150 : decode cX7_obeys 150 = .ok (.iload_n 2, 1) := by decide +kernel
theorem dX7_obeys_151 : decode cX7_obeys 151 = .ok (.invokevirtual 66, 3) := by decide +kernel
theorem dX7_obeys_154 : decode cX7_obeys 154 = .ok (.ireturn, 1) := by decide +kernel
theorem dX7_obeys_155 : decode cX7_obeys 155 = .ok (.aload_n 0, 1) := by decide +kernel
theorem dX7_obeys_156 : decode cX7_obeys 156 = .ok (.getfield 10, 3) := by decide +kernel
theorem dX7_obeys_159 : decode cX7_obeys 159 = .ok (.getfield 49, 3) := by decide +kernel
theorem dX7_obeys_162 : decode cX7_obeys 162 = .ok (.iconst 1, 1) := by decide +kernel
theorem dX7_obeys_163 : decode cX7_obeys 163 = .ok (.iload_n 2, 1) := by decide +kernel
theorem dX7_obeys_164 : decode cX7_obeys 164 = .ok (.invokevirtual 66, 3) := by decide +kernel
theorem dX7_obeys_167 : decode cX7_obeys 167 = .ok (.ireturn, 1) := by decide +kernel
theorem dX7_obeys_168 : decode cX7_obeys 168 = .ok (.aload_n 0, 1) := by decide +kernel
theorem dX7_obeys_169 : decode cX7_obeys 169 = .ok (.getfield 10, 3) := by decide +kernel
theorem dX7_obeys_172 : decode cX7_obeys 172 = .ok (.getfield 49, 3) := by decide +kernel
theorem dX7_obeys_175 : decode cX7_obeys 175 = .ok (.iconst 2, 1) := by decide +kernel
theorem dX7_obeys_176 : decode cX7_obeys 176 = .ok (.iload_n 2, 1) := by decide +kernel
theorem dX7_obeys_177 : decode cX7_obeys 177 = .ok (.invokevirtual 66, 3) := by decide +kernel
theorem dX7_obeys_180 : decode cX7_obeys 180 = .ok (.ireturn, 1) := by decide +kernel
theorem dX7_obeys_181 : decode cX7_obeys 181 = .ok (.aload_n 0, 1) := by decide +kernel
theorem dX7_obeys_182 : decode cX7_obeys 182 = .ok (.getfield 10, 3) := by decide +kernel
theorem dX7_obeys_185 : decode cX7_obeys 185 = .ok (.getfield 49, 3) := by decide +kernel
theorem dX7_obeys_188 : decode cX7_obeys 188 = .ok (.iconst 3, 1) := by decide +kernel
theorem dX7_obeys_189 : decode cX7_obeys 189 = .ok (.iload_n 2, 1) := by decide +kernel
theorem dX7_obeys_190 : decode cX7_obeys 190 = .ok (.invokevirtual 66, 3) := by decide +kernel
theorem dX7_obeys_193 : decode cX7_obeys 193 = .ok (.ireturn, 1) := by decide +kernel
theorem dX7_obeys_194 : decode cX7_obeys 194 = .ok (.bipush (-2), 2) := by decide +kernel
theorem dX7_obeys_196 : decode cX7_obeys 196 = .ok (.ireturn, 1) := by decide +kernel
theorem dX7_toldValue_0 : decode cX7_toldValue 0 = .ok (.iload_n 1, 1) := by decide +kernel
theorem dX7_toldValue_1 : decode cX7_toldValue 1 = .ok (.tableswitch 109 0 12 #[67, 72, 77, 82, 109, 109, 109, 109, 109, 109, 109, 93, 101], 67) := by decide +kernel
theorem dX7_toldValue_68 : decode cX7_toldValue 68 = .ok (.aload_n 0, 1) := by decide +kernel
theorem dX7_toldValue_69 : decode cX7_toldValue 69 = .ok (.getfield 183, 3) := by decide +kernel
theorem dX7_toldValue_72 : decode cX7_toldValue 72 = .ok (.ireturn, 1) := by decide +kernel
theorem dX7_toldValue_73 : decode cX7_toldValue 73 = .ok (.aload_n 0, 1) := by decide +kernel
theorem dX7_toldValue_74 : decode cX7_toldValue 74 = .ok (.getfield 186, 3) := by decide +kernel
theorem dX7_toldValue_77 : decode cX7_toldValue 77 = .ok (.ireturn, 1) := by decide +kernel
theorem dX7_toldValue_78 : decode cX7_toldValue 78 = .ok (.aload_n 0, 1) := by decide +kernel
theorem dX7_toldValue_79 : decode cX7_toldValue 79 = .ok (.getfield 189, 3) := by decide +kernel
theorem dX7_toldValue_82 : decode cX7_toldValue 82 = .ok (.ireturn, 1) := by decide +kernel
theorem dX7_toldValue_83 : decode cX7_toldValue 83 = .ok (.aload_n 0, 1) := by decide +kernel
theorem dX7_toldValue_84 : decode cX7_toldValue 84 = .ok (.getfield 10, 3) := by decide +kernel
theorem dX7_toldValue_87 : decode cX7_toldValue 87 = .ok (.getfield 49, 3) := by decide +kernel
theorem dX7_toldValue_90 : decode cX7_toldValue 90 = .ok (.getfield 180, 3) := by decide +kernel
theorem dX7_toldValue_93 : decode cX7_toldValue 93 = .ok (.ireturn, 1) := by decide +kernel
theorem dX7_toldValue_94 : decode cX7_toldValue 94 = .ok (.aload_n 0, 1) := by decide +kernel
theorem dX7_toldValue_95 : decode cX7_toldValue 95 = .ok (.getfield 26, 3) := by decide +kernel
theorem dX7_toldValue_98 : decode cX7_toldValue 98 = .ok (.getfield 198, 3) := by decide +kernel
theorem dX7_toldValue_101 : decode cX7_toldValue 101 = .ok (.ireturn, 1) := by decide +kernel
theorem dX7_toldValue_102 : decode cX7_toldValue 102 = .ok (.aload_n 0, 1) := by decide +kernel
theorem dX7_toldValue_103 : decode cX7_toldValue 103 = .ok (.getfield 19, 3) := by decide +kernel
theorem dX7_toldValue_106 : decode cX7_toldValue 106 = .ok (.getfield 167, 3) := by decide +kernel
theorem dX7_toldValue_109 : decode cX7_toldValue 109 = .ok (.ireturn, 1) := by decide +kernel
theorem dX7_toldValue_110 : decode cX7_toldValue 110 = .ok (.iload_n 1, 1) := by decide +kernel
theorem dX7_toldValue_111 : decode cX7_toldValue 111 = .ok (.iconst 4, 1) := by decide +kernel
theorem dX7_toldValue_112 : decode cX7_toldValue 112 = .ok (.bipush 10, 2) := by decide +kernel
theorem dX7_toldValue_114 : decode cX7_toldValue 114 = .ok (.invokestatic 96, 3) := by decide +kernel
theorem dX7_toldValue_117 : decode cX7_toldValue 117 = .ok (.ifCond .eq 20, 3) := by decide +kernel
theorem dX7_toldValue_120 : decode cX7_toldValue 120 = .ok (.aload_n 0, 1) := by decide +kernel
theorem dX7_toldValue_121 : decode cX7_toldValue 121 = .ok (.getfield 10, 3) := by decide +kernel
theorem dX7_toldValue_124 : decode cX7_toldValue 124 = .ok (.getfield 49, 3) := by decide +kernel
theorem dX7_toldValue_127 : decode cX7_toldValue 127 = .ok (.getfield 201, 3) := by decide +kernel
theorem dX7_toldValue_130 : decode cX7_toldValue 130 = .ok (.iload_n 1, 1) := by decide +kernel
theorem dX7_toldValue_131 : decode cX7_toldValue 131 = .ok (.iconst 4, 1) := by decide +kernel
theorem dX7_toldValue_132 : decode cX7_toldValue 132 = .ok (.isub, 1) := by decide +kernel
theorem dX7_toldValue_133 : decode cX7_toldValue 133 = .ok (.iaload, 1) := by decide +kernel
theorem dX7_toldValue_134 : decode cX7_toldValue 134 = .ok (.goto 5, 3) := by decide +kernel
theorem dX7_toldValue_137 : decode cX7_toldValue 137 = .ok (.bipush (-2), 2) := by decide +kernel
theorem dX7_toldValue_139 : decode cX7_toldValue 139 = .ok (.ireturn, 1) := by decide +kernel
theorem dX7_within_0 : decode cX7_within 0 = .ok (.iload_n 0, 1) := by decide +kernel
theorem dX7_within_1 : decode cX7_within 1 = .ok (.iload_n 1, 1) := by decide +kernel
theorem dX7_within_2 : decode cX7_within 2 = .ok (.if_icmp .lt 12, 3) := by decide +kernel
theorem dX7_within_5 : decode cX7_within 5 = .ok (.iload_n 0, 1) := by decide +kernel
theorem dX7_within_6 : decode cX7_within 6 = .ok (.iload_n 2, 1) := by decide +kernel
theorem dX7_within_7 : decode cX7_within 7 = .ok (.if_icmp .gt 7, 3) := by decide +kernel
theorem dX7_within_10 : decode cX7_within 10 = .ok (.iconst 1, 1) := by decide +kernel
theorem dX7_within_11 : decode cX7_within 11 = .ok (.goto 4, 3) := by decide +kernel
theorem dX7_within_14 : decode cX7_within 14 = .ok (.iconst 0, 1) := by decide +kernel
theorem dX7_within_15 : decode cX7_within 15 = .ok (.ireturn, 1) := by decide +kernel
theorem dX7_root_0 : decode cX7_root 0 = .ok (.iconst 0, 1) := by decide +kernel
theorem dX7_root_1 : decode cX7_root 1 = .ok (.istore_n 1, 1) := by decide +kernel
theorem dX7_root_2 : decode cX7_root 2 = .ok (.sipush 16384, 3) := by decide +kernel
theorem dX7_root_5 : decode cX7_root 5 = .ok (.istore_n 2, 1) := by decide +kernel
theorem dX7_root_6 : decode cX7_root 6 = .ok (.iload_n 2, 1) := by decide +kernel
theorem dX7_root_7 : decode cX7_root 7 = .ok (.ifCond .le 23, 3) := by decide +kernel
theorem dX7_root_10 : decode cX7_root 10 = .ok (.iload_n 1, 1) := by decide +kernel
theorem dX7_root_11 : decode cX7_root 11 = .ok (.iload_n 2, 1) := by decide +kernel
theorem dX7_root_12 : decode cX7_root 12 = .ok (.iadd, 1) := by decide +kernel
theorem dX7_root_13 : decode cX7_root 13 = .ok (.istore_n 3, 1) := by decide +kernel
theorem dX7_root_14 : decode cX7_root 14 = .ok (.iload_n 3, 1) := by decide +kernel
theorem dX7_root_15 : decode cX7_root 15 = .ok (.iload_n 3, 1) := by decide +kernel
theorem dX7_root_16 : decode cX7_root 16 = .ok (.imul, 1) := by decide +kernel
theorem dX7_root_17 : decode cX7_root 17 = .ok (.iload_n 0, 1) := by decide +kernel
theorem dX7_root_18 : decode cX7_root 18 = .ok (.if_icmp .gt 5, 3) := by decide +kernel
theorem dX7_root_21 : decode cX7_root 21 = .ok (.iload_n 3, 1) := by decide +kernel
theorem dX7_root_22 : decode cX7_root 22 = .ok (.istore_n 1, 1) := by decide +kernel
theorem dX7_root_23 : decode cX7_root 23 = .ok (.iload_n 2, 1) := by decide +kernel
theorem dX7_root_24 : decode cX7_root 24 = .ok (.iconst 1, 1) := by decide +kernel
theorem dX7_root_25 : decode cX7_root 25 = .ok (.ishr, 1) := by decide +kernel
theorem dX7_root_26 : decode cX7_root 26 = .ok (.istore_n 2, 1) := by decide +kernel
theorem dX7_root_27 : decode cX7_root 27 = .ok (.goto (-21), 3) := by decide +kernel
theorem dX7_root_30 : decode cX7_root 30 = .ok (.iload_n 1, 1) := by decide +kernel
theorem dX7_root_31 : decode cX7_root 31 = .ok (.ireturn, 1) := by decide +kernel
end
section
theorem dX8_init_0 : decode cX8_init 0 = .ok (.aload_n 0, 1) := by decide +kernel
theorem dX8_init_1 : decode cX8_init 1 = .ok (.invokespecial 1, 3) := by decide +kernel
theorem dX8_init_4 : decode cX8_init 4 = .ok (.aload_n 0, 1) := by decide +kernel
theorem dX8_init_5 : decode cX8_init 5 = .ok (.sipush 616, 3) := by decide +kernel
theorem dX8_init_8 : decode cX8_init 8 = .ok (.newarray .int, 2) := by decide +kernel
theorem dX8_init_10 : decode cX8_init 10 = .ok (.putfield 7, 3) := by decide +kernel
theorem dX8_init_13 : decode cX8_init 13 = .ok (.aload_n 0, 1) := by decide +kernel
theorem dX8_init_14 : decode cX8_init 14 = .ok (.sipush 4312, 3) := by decide +kernel
theorem dX8_init_17 : decode cX8_init 17 = .ok (.newarray .int, 2) := by decide +kernel
theorem dX8_init_19 : decode cX8_init 19 = .ok (.putfield 13, 3) := by decide +kernel
theorem dX8_init_22 : decode cX8_init 22 = .ok (.aload_n 0, 1) := by decide +kernel
theorem dX8_init_23 : decode cX8_init 23 = .ok (.iconst (-1), 1) := by decide +kernel
theorem dX8_init_24 : decode cX8_init 24 = .ok (.putfield 16, 3) := by decide +kernel
theorem dX8_init_27 : decode cX8_init 27 = .ok (.aload_n 0, 1) := by decide +kernel
theorem dX8_init_28 : decode cX8_init 28 = .ok (.sipush 201, 3) := by decide +kernel
theorem dX8_init_31 : decode cX8_init 31 = .ok (.newarray .int, 2) := by decide +kernel
theorem dX8_init_33 : decode cX8_init 33 = .ok (.putfield 20, 3) := by decide +kernel
theorem dX8_init_36 : decode cX8_init 36 = .ok (.aload_n 0, 1) := by decide +kernel
theorem dX8_init_37 : decode cX8_init 37 = .ok (.bipush 120, 2) := by decide +kernel
theorem dX8_init_39 : decode cX8_init 39 = .ok (.newarray .int, 2) := by decide +kernel
theorem dX8_init_41 : decode cX8_init 41 = .ok (.putfield 23, 3) := by decide +kernel
theorem dX8_init_44 : decode cX8_init 44 = .ok (.aload_n 0, 1) := by decide +kernel
theorem dX8_init_45 : decode cX8_init 45 = .ok (.bipush 24, 2) := by decide +kernel
theorem dX8_init_47 : decode cX8_init 47 = .ok (.newarray .int, 2) := by decide +kernel
theorem dX8_init_49 : decode cX8_init 49 = .ok (.putfield 26, 3) := by decide +kernel
theorem dX8_init_52 : decode cX8_init 52 = .ok (.aload_n 0, 1) := by decide +kernel
theorem dX8_init_53 : decode cX8_init 53 = .ok (.bipush 72, 2) := by decide +kernel
theorem dX8_init_55 : decode cX8_init 55 = .ok (.newarray .int, 2) := by decide +kernel
theorem dX8_init_57 : decode cX8_init 57 = .ok (.putfield 29, 3) := by decide +kernel
theorem dX8_init_60 : decode cX8_init 60 = .ok (.aload_n 0, 1) := by decide +kernel
theorem dX8_init_61 : decode cX8_init 61 = .ok (.getfield 7, 3) := by decide +kernel
theorem dX8_init_64 : decode cX8_init 64 = .ok (.iconst 0, 1) := by decide +kernel
theorem dX8_init_65 : decode cX8_init 65 = .ok (.bipush 100, 2) := by decide +kernel
theorem dX8_init_67 : decode cX8_init 67 = .ok (.iastore, 1) := by decide +kernel
theorem dX8_init_68 : decode cX8_init 68 = .ok (.aload_n 0, 1) := by decide +kernel
theorem dX8_init_69 : decode cX8_init 69 = .ok (.getfield 7, 3) := by decide +kernel
theorem dX8_init_72 : decode cX8_init 72 = .ok (.iconst 1, 1) := by decide +kernel
theorem dX8_init_73 : decode cX8_init 73 = .ok (.bipush 10, 2) := by decide +kernel
theorem dX8_init_75 : decode cX8_init 75 = .ok (.iastore, 1) := by decide +kernel
theorem dX8_init_76 : decode cX8_init 76 = .ok (.aload_n 0, 1) := by decide +kernel
theorem dX8_init_77 : decode cX8_init 77 = .ok (.getfield 7, 3) := by decide +kernel
theorem dX8_init_80 : decode cX8_init 80 = .ok (.iconst 2, 1) := by decide +kernel
theorem dX8_init_81 : decode cX8_init 81 = .ok (.bipush 6, 2) := by decide +kernel
theorem dX8_init_83 : decode cX8_init 83 = .ok (.iastore, 1) := by decide +kernel
theorem dX8_init_84 : decode cX8_init 84 = .ok (.aload_n 0, 1) := by decide +kernel
theorem dX8_init_85 : decode cX8_init 85 = .ok (.getfield 7, 3) := by decide +kernel
theorem dX8_init_88 : decode cX8_init 88 = .ok (.iconst 3, 1) := by decide +kernel
theorem dX8_init_89 : decode cX8_init 89 = .ok (.iconst 1, 1) := by decide +kernel
theorem dX8_init_90 : decode cX8_init 90 = .ok (.iastore, 1) := by decide +kernel
theorem dX8_init_91 : decode cX8_init 91 = .ok (.aload_n 0, 1) := by decide +kernel
theorem dX8_init_92 : decode cX8_init 92 = .ok (.getfield 7, 3) := by decide +kernel
theorem dX8_init_95 : decode cX8_init 95 = .ok (.iconst 4, 1) := by decide +kernel
theorem dX8_init_96 : decode cX8_init 96 = .ok (.bipush 20, 2) := by decide +kernel
theorem dX8_init_98 : decode cX8_init 98 = .ok (.iastore, 1) := by decide +kernel
theorem dX8_init_99 : decode cX8_init 99 = .ok (.aload_n 0, 1) := by decide +kernel
theorem dX8_init_100 : decode cX8_init 100 = .ok (.getfield 7, 3) := by decide +kernel
theorem dX8_init_103 : decode cX8_init 103 = .ok (.iconst 5, 1) := by decide +kernel
theorem dX8_init_104 : decode cX8_init 104 = .ok (.iconst 1, 1) := by decide +kernel
theorem dX8_init_105 : decode cX8_init 105 = .ok (.iastore, 1) := by decide +kernel
theorem dX8_init_106 : decode cX8_init 106 = .ok (.aload_n 0, 1) := by decide +kernel
theorem dX8_init_107 : decode cX8_init 107 = .ok (.getfield 7, 3) := by decide +kernel
theorem dX8_init_110 : decode cX8_init 110 = .ok (.bipush 6, 2) := by decide +kernel
theorem dX8_init_112 : decode cX8_init 112 = .ok (.iconst 3, 1) := by decide +kernel
theorem dX8_init_113 : decode cX8_init 113 = .ok (.iastore, 1) := by decide +kernel
theorem dX8_init_114 : decode cX8_init 114 = .ok (.aload_n 0, 1) := by decide +kernel
theorem dX8_init_115 : decode cX8_init 115 = .ok (.getfield 7, 3) := by decide +kernel
theorem dX8_init_118 : decode cX8_init 118 = .ok (.bipush 7, 2) := by decide +kernel
theorem dX8_init_120 : decode cX8_init 120 = .ok (.iconst 5, 1) := by decide +kernel
theorem dX8_init_121 : decode cX8_init 121 = .ok (.iastore, 1) := by decide +kernel
theorem dX8_init_122 : decode cX8_init 122 = .ok (.iconst 0, 1) := by decide +kernel
theorem dX8_init_123 : decode cX8_init 123 = .ok (.istore_n 1, 1) := by decide +kernel
theorem dX8_init_124 : decode cX8_init 124 = .ok (.iload_n 1, 1) := by decide +kernel
theorem dX8_init_125 : decode cX8_init 125 = .ok (.sipush 200, 3) := by decide +kernel
theorem dX8_init_128 : decode cX8_init 128 = .ok (.if_icmp .ge 22, 3) := by decide +kernel
theorem dX8_init_131 : decode cX8_init 131 = .ok (.aload_n 0, 1) := by decide +kernel
theorem dX8_init_132 : decode cX8_init 132 = .ok (.getfield 7, 3) := by decide +kernel
theorem dX8_init_135 : decode cX8_init 135 = .ok (.bipush 16, 2) := by decide +kernel
theorem dX8_init_137 : decode cX8_init 137 = .ok (.iconst 3, 1) := by decide +kernel
theorem dX8_init_138 : decode cX8_init 138 = .ok (.iload_n 1, 1) := by decide +kernel
theorem dX8_init_139 : decode cX8_init 139 = .ok (.imul, 1) := by decide +kernel
theorem dX8_init_140 : decode cX8_init 140 = .ok (.iadd, 1) := by decide +kernel
theorem dX8_init_141 : decode cX8_init 141 = .ok (.bipush 40, 2) := by decide +kernel
theorem dX8_init_143 : decode cX8_init 143 = .ok (.iastore, 1) := by decide +kernel
theorem dX8_init_144 : decode cX8_init 144 = .ok (.iinc 1 1, 3) := by decide +kernel
theorem dX8_init_147 : decode cX8_init 147 = .ok (.goto (-23), 3) := by decide +kernel
theorem dX8_init_150 : decode cX8_init 150 = .ok (.return_, 1) := by decide +kernel
theorem dX8_in_0 : decode cX8_in 0 = .ok (.iload_n 0, 1) := by decide +kernel
theorem dX8_in_1 : decode cX8_in 1 = .ok (.iload_n 1, 1) := by decide +kernel
theorem dX8_in_2 : decode cX8_in 2 = .ok (.if_icmp .lt 12, 3) := by decide +kernel
theorem dX8_in_5 : decode cX8_in 5 = .ok (.iload_n 0, 1) := by decide +kernel
theorem dX8_in_6 : decode cX8_in 6 = .ok (.iload_n 2, 1) := by decide +kernel
theorem dX8_in_7 : decode cX8_in 7 = .ok (.if_icmp .gt 7, 3) := by decide +kernel
theorem dX8_in_10 : decode cX8_in 10 = .ok (.iconst 1, 1) := by decide +kernel
theorem dX8_in_11 : decode cX8_in 11 = .ok (.goto 4, 3) := by decide +kernel
theorem dX8_in_14 : decode cX8_in 14 = .ok (.iconst 0, 1) := by decide +kernel
theorem dX8_in_15 : decode cX8_in 15 = .ok (.ireturn, 1) := by decide +kernel
theorem dX8_bad_0 : decode cX8_bad 0 = .ok (.aload_n 0, 1) := by decide +kernel
theorem dX8_bad_1 : decode cX8_bad 1 = .ok (.dup, 1) := by decide +kernel
theorem dX8_bad_2 : decode cX8_bad 2 = .ok (.getfield 32, 3) := by decide +kernel
theorem dX8_bad_5 : decode cX8_bad 5 = .ok (.iconst 1, 1) := by decide +kernel
theorem dX8_bad_6 : decode cX8_bad 6 = .ok (.iadd, 1) := by decide +kernel
theorem dX8_bad_7 : decode cX8_bad 7 = .ok (.putfield 32, 3) := by decide +kernel
theorem dX8_bad_10 : decode cX8_bad 10 = .ok (.bipush (-2), 2) := by decide +kernel
theorem dX8_bad_12 : decode cX8_bad 12 = .ok (.ireturn, 1) := by decide +kernel
theorem dX8_no_0 : decode cX8_no 0 = .ok (.aload_n 0, 1) := by decide +kernel
theorem dX8_no_1 : decode cX8_no 1 = .ok (.dup, 1) := by decide +kernel
theorem dX8_no_2 : decode cX8_no 2 = .ok (.getfield 35, 3) := by decide +kernel
theorem dX8_no_5 : decode cX8_no 5 = .ok (.iconst 1, 1) := by decide +kernel
theorem dX8_no_6 : decode cX8_no 6 = .ok (.iadd, 1) := by decide +kernel
theorem dX8_no_7 : decode cX8_no 7 = .ok (.putfield 35, 3) := by decide +kernel
theorem dX8_no_10 : decode cX8_no 10 = .ok (.bipush (-3), 2) := by decide +kernel
theorem dX8_no_12 : decode cX8_no 12 = .ok (.ireturn, 1) := by decide +kernel
theorem dX8_keepTo_0 : decode cX8_keepTo 0 = .ok (.iconst 0, 1) := by decide +kernel
theorem dX8_keepTo_1 : decode cX8_keepTo 1 = .ok (.istore_n 2, 1) := by decide +kernel
theorem dX8_keepTo_2 : decode cX8_keepTo 2 = .ok (.iload_n 2, 1) := by decide +kernel
theorem dX8_keepTo_3 : decode cX8_keepTo 3 = .ok (.sipush 616, 3) := by decide +kernel
theorem dX8_keepTo_6 : decode cX8_keepTo 6 = .ok (.if_icmp .ge 27, 3) := by decide +kernel
theorem dX8_keepTo_9 : decode cX8_keepTo 9 = .ok (.aload_n 0, 1) := by decide +kernel
theorem dX8_keepTo_10 : decode cX8_keepTo 10 = .ok (.getfield 13, 3) := by decide +kernel
theorem dX8_keepTo_13 : decode cX8_keepTo 13 = .ok (.sipush 616, 3) := by decide +kernel
theorem dX8_keepTo_16 : decode cX8_keepTo 16 = .ok (.iload_n 1, 1) := by decide +kernel
theorem dX8_keepTo_17 : decode cX8_keepTo 17 = .ok (.imul, 1) := by decide +kernel
theorem dX8_keepTo_18 : decode cX8_keepTo 18 = .ok (.iload_n 2, 1) := by decide +kernel
theorem dX8_keepTo_19 : decode cX8_keepTo 19 = .ok (.iadd, 1) := by decide +kernel
theorem dX8_keepTo_20 : decode cX8_keepTo 20 = .ok (.aload_n 0, 1) := by decide +kernel
theorem dX8_keepTo_21 : decode cX8_keepTo 21 = .ok (.getfield 7, 3) := by decide +kernel
theorem dX8_keepTo_24 : decode cX8_keepTo 24 = .ok (.iload_n 2, 1) := by decide +kernel
theorem dX8_keepTo_25 : decode cX8_keepTo 25 = .ok (.iaload, 1) := by decide +kernel
theorem dX8_keepTo_26 : decode cX8_keepTo 26 = .ok (.iastore, 1) := by decide +kernel
theorem dX8_keepTo_27 : decode cX8_keepTo 27 = .ok (.iinc 2 1, 3) := by decide +kernel
theorem dX8_keepTo_30 : decode cX8_keepTo 30 = .ok (.goto (-28), 3) := by decide +kernel
theorem dX8_keepTo_33 : decode cX8_keepTo 33 = .ok (.return_, 1) := by decide +kernel
theorem dX8_takeFrom_0 : decode cX8_takeFrom 0 = .ok (.iconst 0, 1) := by decide +kernel
theorem dX8_takeFrom_1 : decode cX8_takeFrom 1 = .ok (.istore_n 2, 1) := by decide +kernel
theorem dX8_takeFrom_2 : decode cX8_takeFrom 2 = .ok (.iload_n 2, 1) := by decide +kernel
theorem dX8_takeFrom_3 : decode cX8_takeFrom 3 = .ok (.sipush 616, 3) := by decide +kernel
theorem dX8_takeFrom_6 : decode cX8_takeFrom 6 = .ok (.if_icmp .ge 27, 3) := by decide +kernel
theorem dX8_takeFrom_9 : decode cX8_takeFrom 9 = .ok (.aload_n 0, 1) := by decide +kernel
theorem dX8_takeFrom_10 : decode cX8_takeFrom 10 = .ok (.getfield 7, 3) := by decide +kernel
theorem dX8_takeFrom_13 : decode cX8_takeFrom 13 = .ok (.iload_n 2, 1) := by decide +kernel
theorem dX8_takeFrom_14 : decode cX8_takeFrom 14 = .ok (.aload_n 0, 1) := by decide +kernel
theorem dX8_takeFrom_15 : decode cX8_takeFrom 15 = .ok (.getfield 13, 3) := by decide +kernel
theorem dX8_takeFrom_18 : decode cX8_takeFrom 18 = .ok (.sipush 616, 3) := by decide +kernel
theorem dX8_takeFrom_21 : decode cX8_takeFrom 21 = .ok (.iload_n 1, 1) := by decide +kernel
theorem dX8_takeFrom_22 : decode cX8_takeFrom 22 = .ok (.imul, 1) := by decide +kernel
theorem dX8_takeFrom_23 : decode cX8_takeFrom 23 = .ok (.iload_n 2, 1) := by decide +kernel
theorem dX8_takeFrom_24 : decode cX8_takeFrom 24 = .ok (.iadd, 1) := by decide +kernel
theorem dX8_takeFrom_25 : decode cX8_takeFrom 25 = .ok (.iaload, 1) := by decide +kernel
theorem dX8_takeFrom_26 : decode cX8_takeFrom 26 = .ok (.iastore, 1) := by decide +kernel
theorem dX8_takeFrom_27 : decode cX8_takeFrom 27 = .ok (.iinc 2 1, 3) := by decide +kernel
theorem dX8_takeFrom_30 : decode cX8_takeFrom 30 = .ok (.goto (-28), 3) := by decide +kernel
theorem dX8_takeFrom_33 : decode cX8_takeFrom 33 = .ok (.return_, 1) := by decide +kernel
theorem dX8_notes_0 : decode cX8_notes 0 = .ok (.aload_n 0, 1) := by decide +kernel
theorem dX8_notes_1 : decode cX8_notes 1 = .ok (.getfield 38, 3) := by decide +kernel
theorem dX8_notes_4 : decode cX8_notes 4 = .ok (.bipush 6, 2) := by decide +kernel
theorem dX8_notes_6 : decode cX8_notes 6 = .ok (.if_icmp .ne 44, 3) := by decide +kernel
theorem dX8_notes_9 : decode cX8_notes 9 = .ok (.iconst 0, 1) := by decide +kernel
theorem dX8_notes_10 : decode cX8_notes 10 = .ok (.istore_n 1, 1) := by decide +kernel
theorem dX8_notes_11 : decode cX8_notes 11 = .ok (.iload_n 1, 1) := by decide +kernel
theorem dX8_notes_12 : decode cX8_notes 12 = .ok (.sipush 3080, 3) := by decide +kernel
theorem dX8_notes_15 : decode cX8_notes 15 = .ok (.if_icmp .ge 25, 3) := by decide +kernel
theorem dX8_notes_18 : decode cX8_notes 18 = .ok (.aload_n 0, 1) := by decide +kernel
theorem dX8_notes_19 : decode cX8_notes 19 = .ok (.getfield 13, 3) := by decide +kernel
theorem dX8_notes_22 : decode cX8_notes 22 = .ok (.iload_n 1, 1) := by decide +kernel
theorem dX8_notes_23 : decode cX8_notes 23 = .ok (.aload_n 0, 1) := by decide +kernel
theorem dX8_notes_24 : decode cX8_notes 24 = .ok (.getfield 13, 3) := by decide +kernel
theorem dX8_notes_27 : decode cX8_notes 27 = .ok (.iload_n 1, 1) := by decide +kernel
theorem dX8_notes_28 : decode cX8_notes 28 = .ok (.sipush 616, 3) := by decide +kernel
theorem dX8_notes_31 : decode cX8_notes 31 = .ok (.iadd, 1) := by decide +kernel
theorem dX8_notes_32 : decode cX8_notes 32 = .ok (.iaload, 1) := by decide +kernel
theorem dX8_notes_33 : decode cX8_notes 33 = .ok (.iastore, 1) := by decide +kernel
theorem dX8_notes_34 : decode cX8_notes 34 = .ok (.iinc 1 1, 3) := by decide +kernel
theorem dX8_notes_37 : decode cX8_notes 37 = .ok (.goto (-26), 3) := by decide +kernel
theorem dX8_notes_40 : decode cX8_notes 40 = .ok (.aload_n 0, 1) := by decide +kernel
theorem dX8_notes_41 : decode cX8_notes 41 = .ok (.dup, 1) := by decide +kernel
theorem dX8_notes_42 : decode cX8_notes 42 = .ok (.getfield 38, 3) := by decide +kernel
theorem dX8_notes_45 : decode cX8_notes 45 = .ok (.iconst 1, 1) := by decide +kernel
theorem dX8_notes_46 : decode cX8_notes 46 = .ok (.isub, 1) := by decide +kernel
theorem dX8_notes_47 : decode cX8_notes 47 = .ok (.putfield 38, 3) := by decide +kernel
theorem dX8_notes_50 : decode cX8_notes 50 = .ok (.aload_n 0, 1) := by decide +kernel
theorem dX8_notes_51 : decode cX8_notes 51 = .ok (.aload_n 0, 1) := by decide +kernel
theorem dX8_notes_52 : decode cX8_notes 52 = .ok (.getfield 38, 3) := by decide +kernel
theorem dX8_notes_55 : decode cX8_notes 55 = .ok (.invokevirtual 41, 3) := by decide +kernel
theorem dX8_notes_58 : decode cX8_notes 58 = .ok (.aload_n 0, 1) := by decide +kernel
theorem dX8_notes_59 : decode cX8_notes 59 = .ok (.dup, 1) := by decide +kernel
theorem dX8_notes_60 : decode cX8_notes 60 = .ok (.getfield 38, 3) := by decide +kernel
theorem dX8_notes_63 : decode cX8_notes 63 = .ok (.iconst 1, 1) := by decide +kernel
theorem dX8_notes_64 : decode cX8_notes 64 = .ok (.iadd, 1) := by decide +kernel
theorem dX8_notes_65 : decode cX8_notes 65 = .ok (.putfield 38, 3) := by decide +kernel
theorem dX8_notes_68 : decode cX8_notes 68 = .ok (.return_, 1) := by decide +kernel
theorem dX8_isCell_0 : decode cX8_isCell 0 = .ok (.iload_n 1, 1) := by decide +kernel
theorem dX8_isCell_1 : decode cX8_isCell 1 = .ok (.iconst 0, 1) := by decide +kernel
theorem dX8_isCell_2 : decode cX8_isCell 2 = .ok (.aload_n 0, 1) := by decide +kernel
theorem dX8_isCell_3 : decode cX8_isCell 3 = .ok (.getfield 7, 3) := by decide +kernel
theorem dX8_isCell_6 : decode cX8_isCell 6 = .ok (.iconst 0, 1) := by decide +kernel
theorem dX8_isCell_7 : decode cX8_isCell 7 = .ok (.iaload, 1) := by decide +kernel
theorem dX8_isCell_8 : decode cX8_isCell 8 = .ok (.iconst 1, 1) := by decide +kernel
theorem dX8_isCell_9 : decode cX8_isCell 9 = .ok (.isub, 1) := by decide +kernel
theorem dX8_isCell_10 : decode cX8_isCell 10 = .ok (.invokestatic 45, 3) := by decide +kernel
theorem dX8_isCell_13 : decode cX8_isCell 13 = .ok (.ireturn, 1) := by decide +kernel
theorem dX8_ceiling_0 : decode cX8_ceiling 0 = .ok (.aload_n 0, 1) := by decide +kernel
theorem dX8_ceiling_1 : decode cX8_ceiling 1 = .ok (.getfield 7, 3) := by decide +kernel
theorem dX8_ceiling_4 : decode cX8_ceiling 4 = .ok (.bipush 16, 2) := by decide +kernel
theorem dX8_ceiling_6 : decode cX8_ceiling 6 = .ok (.iconst 3, 1) := by decide +kernel
theorem dX8_ceiling_7 : decode cX8_ceiling 7 = .ok (.iload_n 1, 1) := by decide +kernel
theorem dX8_ceiling_8 : decode cX8_ceiling 8 = .ok (.imul, 1) := by decide +kernel
theorem dX8_ceiling_9 : decode cX8_ceiling 9 = .ok (.iadd, 1) := by decide +kernel
theorem dX8_ceiling_10 : decode cX8_ceiling 10 = .ok (.iaload, 1) := by decide +kernel
theorem dX8_ceiling_11 : decode cX8_ceiling 11 = .ok (.ireturn, 1) := by decide +kernel
theorem dX8_grade_0 : decode cX8_grade 0 = .ok (.aload_n 0, 1) := by decide +kernel
theorem dX8_grade_1 : decode cX8_grade 1 = .ok (.getfield 7, 3) := by decide +kernel
theorem dX8_grade_4 : decode cX8_grade 4 = .ok (.bipush 16, 2) := by decide +kernel
theorem dX8_grade_6 : decode cX8_grade 6 = .ok (.iconst 3, 1) := by decide +kernel
theorem dX8_grade_7 : decode cX8_grade 7 = .ok (.iload_n 1, 1) := by decide +kernel
theorem dX8_grade_8 : decode cX8_grade 8 = .ok (.imul, 1) := by decide +kernel
theorem dX8_grade_9 : decode cX8_grade 9 = .ok (.iadd, 1) := by decide +kernel
theorem dX8_grade_10 : decode cX8_grade 10 = .ok (.iconst 1, 1) := by decide +kernel
theorem dX8_grade_11 : decode cX8_grade 11 = .ok (.iadd, 1) := by decide +kernel
theorem dX8_grade_12 : decode cX8_grade 12 = .ok (.iaload, 1) := by decide +kernel
theorem dX8_grade_13 : decode cX8_grade 13 = .ok (.ireturn, 1) := by decide +kernel
theorem dX8_decel_0 : decode cX8_decel 0 = .ok (.aload_n 0, 1) := by decide +kernel
theorem dX8_decel_1 : decode cX8_decel 1 = .ok (.getfield 7, 3) := by decide +kernel
theorem dX8_decel_4 : decode cX8_decel 4 = .ok (.iconst 1, 1) := by decide +kernel
theorem dX8_decel_5 : decode cX8_decel 5 = .ok (.iaload, 1) := by decide +kernel
theorem dX8_decel_6 : decode cX8_decel 6 = .ok (.aload_n 0, 1) := by decide +kernel
theorem dX8_decel_7 : decode cX8_decel 7 = .ok (.iload_n 1, 1) := by decide +kernel
theorem dX8_decel_8 : decode cX8_decel 8 = .ok (.invokevirtual 49, 3) := by decide +kernel
theorem dX8_decel_11 : decode cX8_decel 11 = .ok (.iadd, 1) := by decide +kernel
theorem dX8_decel_12 : decode cX8_decel 12 = .ok (.istore_n 2, 1) := by decide +kernel
theorem dX8_decel_13 : decode cX8_decel 13 = .ok (.iload_n 2, 1) := by decide +kernel
theorem dX8_decel_14 : decode cX8_decel 14 = .ok (.iconst 1, 1) := by decide +kernel
theorem dX8_decel_15 : decode cX8_decel 15 = .ok (.if_icmp .ge 7, 3) := by decide +kernel
theorem dX8_decel_18 : decode cX8_decel 18 = .ok (.iconst 1, 1) := by decide +kernel
theorem dX8_decel_19 : decode cX8_decel 19 = .ok (.goto 4, 3) := by decide +kernel
theorem dX8_decel_22 : decode cX8_decel 22 = .ok (.iload_n 2, 1) := by decide +kernel
theorem dX8_decel_23 : decode cX8_decel 23 = .ok (.ireturn, 1) := by decide +kernel
theorem dX8_inForce_0 : decode cX8_inForce 0 = .ok (.aload_n 0, 1) := by decide +kernel
theorem dX8_inForce_1 : decode cX8_inForce 1 = .ok (.iload_n 1, 1) := by decide +kernel
theorem dX8_inForce_2 : decode cX8_inForce 2 = .ok (.invokevirtual 53, 3) := by decide +kernel
theorem dX8_inForce_5 : decode cX8_inForce 5 = .ok (.istore_n 2, 1) := by decide +kernel
theorem dX8_inForce_6 : decode cX8_inForce 6 = .ok (.iload_n 1, 1) := by decide +kernel
theorem dX8_inForce_7 : decode cX8_inForce 7 = .ok (.aload_n 0, 1) := by decide +kernel
theorem dX8_inForce_8 : decode cX8_inForce 8 = .ok (.getfield 7, 3) := by decide +kernel
theorem dX8_inForce_11 : decode cX8_inForce 11 = .ok (.iconst 3, 1) := by decide +kernel
theorem dX8_inForce_12 : decode cX8_inForce 12 = .ok (.iaload, 1) := by decide +kernel
theorem dX8_inForce_13 : decode cX8_inForce 13 = .ok (.isub, 1) := by decide +kernel
theorem dX8_inForce_14 : decode cX8_inForce 14 = .ok (.iconst 1, 1) := by decide +kernel
theorem dX8_inForce_15 : decode cX8_inForce 15 = .ok (.iadd, 1) := by decide +kernel
theorem dX8_inForce_16 : decode cX8_inForce 16 = .ok (.istore_n 3, 1) := by decide +kernel
theorem dX8_inForce_17 : decode cX8_inForce 17 = .ok (.iload_n 3, 1) := by decide +kernel
theorem dX8_inForce_18 : decode cX8_inForce 18 = .ok (.iload_n 1, 1) := by decide +kernel
theorem dX8_inForce_19 : decode cX8_inForce 19 = .ok (.if_icmp .ge 32, 3) := by decide +kernel
theorem dX8_inForce_22 : decode cX8_inForce 22 = .ok (.iload_n 3, 1) := by decide +kernel
theorem dX8_inForce_23 : decode cX8_inForce 23 = .ok (.ifCond .lt 20, 3) := by decide +kernel
theorem dX8_inForce_26 : decode cX8_inForce 26 = .ok (.aload_n 0, 1) := by decide +kernel
theorem dX8_inForce_27 : decode cX8_inForce 27 = .ok (.iload_n 3, 1) := by decide +kernel
theorem dX8_inForce_28 : decode cX8_inForce 28 = .ok (.invokevirtual 53, 3) := by decide +kernel
theorem dX8_inForce_31 : decode cX8_inForce 31 = .ok (.iload_n 2, 1) := by decide +kernel
theorem dX8_inForce_32 : decode cX8_inForce 32 = .ok (.if_icmp .ge 11, 3) := by decide +kernel
theorem dX8_inForce_35 : decode cX8_inForce 35 = .ok (.aload_n 0, 1) := by decide +kernel
theorem dX8_inForce_36 : decode cX8_inForce 36 = .ok (.iload_n 3, 1) := by decide +kernel
theorem dX8_inForce_37 : decode cX8_inForce 37 = .ok (.invokevirtual 53, 3) := by decide +kernel
theorem dX8_inForce_40 : decode cX8_inForce 40 = .ok (.goto 4, 3) := by decide +kernel
theorem dX8_inForce_43 : decode cX8_inForce 43 = .ok (.iload_n 2, 1) := by decide +kernel
theorem dX8_inForce_44 : decode cX8_inForce 44 = .ok (.istore_n 2, 1) := by decide +kernel
theorem dX8_inForce_45 : decode cX8_inForce 45 = .ok (.iinc 3 1, 3) := by decide +kernel
theorem dX8_inForce_48 : decode cX8_inForce 48 = .ok (.goto (-31), 3) := by decide +kernel
theorem dX8_inForce_51 : decode cX8_inForce 51 = .ok (.iload_n 2, 1) := by decide +kernel
theorem dX8_inForce_52 : decode cX8_inForce 52 = .ok (.ireturn, 1) := by decide +kernel
theorem dX8_mayLengthen_0 : decode cX8_mayLengthen 0 = .ok (.iload_n 1, 1) := by decide +kernel
theorem dX8_mayLengthen_1 : decode cX8_mayLengthen 1 = .ok (.iconst 5, 1) := by decide +kernel
theorem dX8_mayLengthen_2 : decode cX8_mayLengthen 2 = .ok (.sipush 200, 3) := by decide +kernel
theorem dX8_mayLengthen_5 : decode cX8_mayLengthen 5 = .ok (.invokestatic 45, 3) := by decide +kernel
theorem dX8_mayLengthen_8 : decode cX8_mayLengthen 8 = .ok (.ireturn, 1) := by decide +kernel
theorem dX8_lengthen_0 : decode cX8_lengthen 0 = .ok (.aload_n 0, 1) := by decide +kernel
theorem dX8_lengthen_1 : decode cX8_lengthen 1 = .ok (.getfield 7, 3) := by decide +kernel
theorem dX8_lengthen_4 : decode cX8_lengthen 4 = .ok (.iconst 0, 1) := by decide +kernel
theorem dX8_lengthen_5 : decode cX8_lengthen 5 = .ok (.iaload, 1) := by decide +kernel
theorem dX8_lengthen_6 : decode cX8_lengthen 6 = .ok (.istore_n 2, 1) := by decide +kernel
theorem dX8_lengthen_7 : decode cX8_lengthen 7 = .ok (.iload_n 2, 1) := by decide +kernel
theorem dX8_lengthen_8 : decode cX8_lengthen 8 = .ok (.istore_n 3, 1) := by decide +kernel
theorem dX8_lengthen_9 : decode cX8_lengthen 9 = .ok (.iload_n 3, 1) := by decide +kernel
theorem dX8_lengthen_10 : decode cX8_lengthen 10 = .ok (.iload_n 1, 1) := by decide +kernel
theorem dX8_lengthen_11 : decode cX8_lengthen 11 = .ok (.if_icmp .ge 50, 3) := by decide +kernel
theorem dX8_lengthen_14 : decode cX8_lengthen 14 = .ok (.aload_n 0, 1) := by decide +kernel
theorem dX8_lengthen_15 : decode cX8_lengthen 15 = .ok (.getfield 7, 3) := by decide +kernel
theorem dX8_lengthen_18 : decode cX8_lengthen 18 = .ok (.bipush 16, 2) := by decide +kernel
theorem dX8_lengthen_20 : decode cX8_lengthen 20 = .ok (.iconst 3, 1) := by decide +kernel
theorem dX8_lengthen_21 : decode cX8_lengthen 21 = .ok (.iload_n 3, 1) := by decide +kernel
theorem dX8_lengthen_22 : decode cX8_lengthen 22 = .ok (.imul, 1) := by decide +kernel
theorem dX8_lengthen_23 : decode cX8_lengthen 23 = .ok (.iadd, 1) := by decide +kernel
theorem dX8_lengthen_24 : decode cX8_lengthen 24 = .ok (.bipush 40, 2) := by decide +kernel
theorem dX8_lengthen_26 : decode cX8_lengthen 26 = .ok (.iastore, 1) := by decide +kernel
theorem dX8_lengthen_27 : decode cX8_lengthen 27 = .ok (.aload_n 0, 1) := by decide +kernel
theorem dX8_lengthen_28 : decode cX8_lengthen 28 = .ok (.getfield 7, 3) := by decide +kernel
theorem dX8_lengthen_31 : decode cX8_lengthen 31 = .ok (.bipush 16, 2) := by decide +kernel
theorem dX8_lengthen_33 : decode cX8_lengthen 33 = .ok (.iconst 3, 1) := by decide +kernel
theorem dX8_lengthen_34 : decode cX8_lengthen 34 = .ok (.iload_n 3, 1) := by decide +kernel
theorem dX8_lengthen_35 : decode cX8_lengthen 35 = .ok (.imul, 1) := by decide +kernel
theorem dX8_lengthen_36 : decode cX8_lengthen 36 = .ok (.iadd, 1) := by decide +kernel
theorem dX8_lengthen_37 : decode cX8_lengthen 37 = .ok (.iconst 1, 1) := by decide +kernel
theorem dX8_lengthen_38 : decode cX8_lengthen 38 = .ok (.iadd, 1) := by decide +kernel
theorem dX8_lengthen_39 : decode cX8_lengthen 39 = .ok (.iconst 0, 1) := by decide +kernel
theorem dX8_lengthen_40 : decode cX8_lengthen 40 = .ok (.iastore, 1) := by decide +kernel
theorem dX8_lengthen_41 : decode cX8_lengthen 41 = .ok (.aload_n 0, 1) := by decide +kernel
theorem dX8_lengthen_42 : decode cX8_lengthen 42 = .ok (.getfield 7, 3) := by decide +kernel
theorem dX8_lengthen_45 : decode cX8_lengthen 45 = .ok (.bipush 16, 2) := by decide +kernel
theorem dX8_lengthen_47 : decode cX8_lengthen 47 = .ok (.iconst 3, 1) := by decide +kernel
theorem dX8_lengthen_48 : decode cX8_lengthen 48 = .ok (.iload_n 3, 1) := by decide +kernel
theorem dX8_lengthen_49 : decode cX8_lengthen 49 = .ok (.imul, 1) := by decide +kernel
theorem dX8_lengthen_50 : decode cX8_lengthen 50 = .ok (.iadd, 1) := by decide +kernel
theorem dX8_lengthen_51 : decode cX8_lengthen 51 = .ok (.iconst 2, 1) := by decide +kernel
theorem dX8_lengthen_52 : decode cX8_lengthen 52 = .ok (.iadd, 1) := by decide +kernel
theorem dX8_lengthen_53 : decode cX8_lengthen 53 = .ok (.iconst 0, 1) := by decide +kernel
theorem dX8_lengthen_54 : decode cX8_lengthen 54 = .ok (.iastore, 1) := by decide +kernel
theorem dX8_lengthen_55 : decode cX8_lengthen 55 = .ok (.iinc 3 1, 3) := by decide +kernel
theorem dX8_lengthen_58 : decode cX8_lengthen 58 = .ok (.goto (-49), 3) := by decide +kernel
theorem dX8_lengthen_61 : decode cX8_lengthen 61 = .ok (.aload_n 0, 1) := by decide +kernel
theorem dX8_lengthen_62 : decode cX8_lengthen 62 = .ok (.getfield 7, 3) := by decide +kernel
theorem dX8_lengthen_65 : decode cX8_lengthen 65 = .ok (.iconst 0, 1) := by decide +kernel
theorem dX8_lengthen_66 : decode cX8_lengthen 66 = .ok (.iload_n 1, 1) := by decide +kernel
theorem dX8_lengthen_67 : decode cX8_lengthen 67 = .ok (.iastore, 1) := by decide +kernel
theorem dX8_lengthen_68 : decode cX8_lengthen 68 = .ok (.aload_n 0, 1) := by decide +kernel
theorem dX8_lengthen_69 : decode cX8_lengthen 69 = .ok (.getfield 7, 3) := by decide +kernel
theorem dX8_lengthen_72 : decode cX8_lengthen 72 = .ok (.bipush 8, 2) := by decide +kernel
theorem dX8_lengthen_74 : decode cX8_lengthen 74 = .ok (.iconst 0, 1) := by decide +kernel
theorem dX8_lengthen_75 : decode cX8_lengthen 75 = .ok (.iastore, 1) := by decide +kernel
theorem dX8_lengthen_76 : decode cX8_lengthen 76 = .ok (.aload_n 0, 1) := by decide +kernel
theorem dX8_lengthen_77 : decode cX8_lengthen 77 = .ok (.getfield 7, 3) := by decide +kernel
theorem dX8_lengthen_80 : decode cX8_lengthen 80 = .ok (.bipush 9, 2) := by decide +kernel
theorem dX8_lengthen_82 : decode cX8_lengthen 82 = .ok (.iconst 0, 1) := by decide +kernel
theorem dX8_lengthen_83 : decode cX8_lengthen 83 = .ok (.iastore, 1) := by decide +kernel
theorem dX8_lengthen_84 : decode cX8_lengthen 84 = .ok (.aload_n 0, 1) := by decide +kernel
theorem dX8_lengthen_85 : decode cX8_lengthen 85 = .ok (.getfield 7, 3) := by decide +kernel
theorem dX8_lengthen_88 : decode cX8_lengthen 88 = .ok (.bipush 10, 2) := by decide +kernel
theorem dX8_lengthen_90 : decode cX8_lengthen 90 = .ok (.iconst 0, 1) := by decide +kernel
theorem dX8_lengthen_91 : decode cX8_lengthen 91 = .ok (.iastore, 1) := by decide +kernel
theorem dX8_lengthen_92 : decode cX8_lengthen 92 = .ok (.aload_n 0, 1) := by decide +kernel
theorem dX8_lengthen_93 : decode cX8_lengthen 93 = .ok (.getfield 7, 3) := by decide +kernel
theorem dX8_lengthen_96 : decode cX8_lengthen 96 = .ok (.bipush 11, 2) := by decide +kernel
theorem dX8_lengthen_98 : decode cX8_lengthen 98 = .ok (.iconst 0, 1) := by decide +kernel
theorem dX8_lengthen_99 : decode cX8_lengthen 99 = .ok (.iastore, 1) := by decide +kernel
theorem dX8_lengthen_100 : decode cX8_lengthen 100 = .ok (.aload_n 0, 1) := by decide +kernel
theorem dX8_lengthen_101 : decode cX8_lengthen 101 = .ok (.getfield 7, 3) := by decide +kernel
theorem dX8_lengthen_104 : decode cX8_lengthen 104 = .ok (.bipush 12, 2) := by decide +kernel
theorem dX8_lengthen_106 : decode cX8_lengthen 106 = .ok (.iconst 0, 1) := by decide +kernel
theorem dX8_lengthen_107 : decode cX8_lengthen 107 = .ok (.iastore, 1) := by decide +kernel
theorem dX8_lengthen_108 : decode cX8_lengthen 108 = .ok (.iload_n 2, 1) := by decide +kernel
theorem dX8_lengthen_109 : decode cX8_lengthen 109 = .ok (.ireturn, 1) := by decide +kernel
theorem dX8_lengthens_0 : decode cX8_lengthens 0 = .ok (.aload_n 0, 1) := by decide +kernel
theorem dX8_lengthens_1 : decode cX8_lengthens 1 = .ok (.iload_n 1, 1) := by decide +kernel
theorem dX8_lengthens_2 : decode cX8_lengthens 2 = .ok (.invokevirtual 56, 3) := by decide +kernel
theorem dX8_lengthens_5 : decode cX8_lengthens 5 = .ok (.ifCond .ne 8, 3) := by decide +kernel
theorem dX8_lengthens_8 : decode cX8_lengthens 8 = .ok (.aload_n 0, 1) := by decide +kernel
theorem dX8_lengthens_9 : decode cX8_lengthens 9 = .ok (.invokevirtual 60, 3) := by decide +kernel
theorem dX8_lengthens_12 : decode cX8_lengthens 12 = .ok (.ireturn, 1) := by decide +kernel
theorem dX8_lengthens_13 : decode cX8_lengthens 13 = .ok (.aload_n 0, 1) := by decide +kernel
theorem dX8_lengthens_14 : decode cX8_lengthens 14 = .ok (.invokevirtual 64, 3) := by decide +kernel
theorem dX8_lengthens_17 : decode cX8_lengthens 17 = .ok (.aload_n 0, 1) := by decide +kernel
theorem dX8_lengthens_18 : decode cX8_lengthens 18 = .ok (.iload_n 1, 1) := by decide +kernel
theorem dX8_lengthens_19 : decode cX8_lengthens 19 = .ok (.invokevirtual 67, 3) := by decide +kernel
theorem dX8_lengthens_22 : decode cX8_lengthens 22 = .ok (.ireturn, 1) := by decide +kernel
theorem dX8_mayLay_0 : decode cX8_mayLay 0 = .ok (.iload_n 1, 1) := by decide +kernel
theorem dX8_mayLay_1 : decode cX8_mayLay 1 = .ok (.ifCond .ne 14, 3) := by decide +kernel
theorem dX8_mayLay_4 : decode cX8_mayLay 4 = .ok (.iload 4, 2) := by decide +kernel
theorem dX8_mayLay_6 : decode cX8_mayLay 6 = .ok (.iconst 0, 1) := by decide +kernel
theorem dX8_mayLay_7 : decode cX8_mayLay 7 = .ok (.bipush 60, 2) := by decide +kernel
theorem dX8_mayLay_9 : decode cX8_mayLay 9 = .ok (.invokestatic 45, 3) := by decide +kernel
theorem dX8_mayLay_12 : decode cX8_mayLay 12 = .ok (.goto 12, 3) := by decide +kernel
theorem dX8_mayLay_15 : decode cX8_mayLay 15 = .ok (.iload 4, 2) := by decide +kernel
theorem dX8_mayLay_17 : decode cX8_mayLay 17 = .ok (.bipush (-20), 2) := by decide +kernel
theorem dX8_mayLay_19 : decode cX8_mayLay 19 = .ok (.bipush 20, 2) := by decide +kernel
theorem dX8_mayLay_21 : decode cX8_mayLay 21 = .ok (.invokestatic 45, 3) := by decide +kernel
theorem dX8_mayLay_24 : decode cX8_mayLay 24 = .ok (.istore 5, 2) := by decide +kernel
theorem dX8_mayLay_26 : decode cX8_mayLay 26 = .ok (.iload_n 1, 1) := by decide +kernel
theorem dX8_mayLay_27 : decode cX8_mayLay 27 = .ok (.iconst 0, 1) := by decide +kernel
theorem dX8_mayLay_28 : decode cX8_mayLay 28 = .ok (.iconst 1, 1) := by decide +kernel
theorem dX8_mayLay_29 : decode cX8_mayLay 29 = .ok (.invokestatic 45, 3) := by decide +kernel
theorem dX8_mayLay_32 : decode cX8_mayLay 32 = .ok (.ifCond .eq 33, 3) := by decide +kernel
theorem dX8_mayLay_35 : decode cX8_mayLay 35 = .ok (.aload_n 0, 1) := by decide +kernel
theorem dX8_mayLay_36 : decode cX8_mayLay 36 = .ok (.iload_n 2, 1) := by decide +kernel
theorem dX8_mayLay_37 : decode cX8_mayLay 37 = .ok (.invokevirtual 70, 3) := by decide +kernel
theorem dX8_mayLay_40 : decode cX8_mayLay 40 = .ok (.ifCond .eq 25, 3) := by decide +kernel
theorem dX8_mayLay_43 : decode cX8_mayLay 43 = .ok (.aload_n 0, 1) := by decide +kernel
theorem dX8_mayLay_44 : decode cX8_mayLay 44 = .ok (.iload_n 3, 1) := by decide +kernel
theorem dX8_mayLay_45 : decode cX8_mayLay 45 = .ok (.invokevirtual 70, 3) := by decide +kernel
theorem dX8_mayLay_48 : decode cX8_mayLay 48 = .ok (.ifCond .eq 17, 3) := by decide +kernel
theorem dX8_mayLay_51 : decode cX8_mayLay 51 = .ok (.iload_n 2, 1) := by decide +kernel
theorem dX8_mayLay_52 : decode cX8_mayLay 52 = .ok (.iload_n 3, 1) := by decide +kernel
theorem dX8_mayLay_53 : decode cX8_mayLay 53 = .ok (.if_icmp .gt 12, 3) := by decide +kernel
theorem dX8_mayLay_56 : decode cX8_mayLay 56 = .ok (.iload 5, 2) := by decide +kernel
theorem dX8_mayLay_58 : decode cX8_mayLay 58 = .ok (.ifCond .eq 7, 3) := by decide +kernel
theorem dX8_mayLay_61 : decode cX8_mayLay 61 = .ok (.iconst 1, 1) := by decide +kernel
theorem dX8_mayLay_62 : decode cX8_mayLay 62 = .ok (.goto 4, 3) := by decide +kernel
theorem dX8_mayLay_65 : decode cX8_mayLay 65 = .ok (.iconst 0, 1) := by decide +kernel
theorem dX8_mayLay_66 : decode cX8_mayLay 66 = .ok (.ireturn, 1) := by decide +kernel
theorem dX8_lay_0 : decode cX8_lay 0 = .ok (.iconst 0, 1) := by decide +kernel
theorem dX8_lay_1 : decode cX8_lay 1 = .ok (.istore 5, 2) := by decide +kernel
theorem dX8_lay_3 : decode cX8_lay 3 = .ok (.iload_n 2, 1) := by decide +kernel
theorem dX8_lay_4 : decode cX8_lay 4 = .ok (.istore 6, 2) := by decide +kernel
theorem dX8_lay_6 : decode cX8_lay 6 = .ok (.iload 6, 2) := by decide +kernel
theorem dX8_lay_8 : decode cX8_lay 8 = .ok (.iload_n 3, 1) := by decide +kernel
theorem dX8_lay_9 : decode cX8_lay 9 = .ok (.if_icmp .gt 54, 3) := by decide +kernel
theorem dX8_lay_12 : decode cX8_lay 12 = .ok (.iload 5, 2) := by decide +kernel
theorem dX8_lay_14 : decode cX8_lay 14 = .ok (.aload_n 0, 1) := by decide +kernel
theorem dX8_lay_15 : decode cX8_lay 15 = .ok (.getfield 7, 3) := by decide +kernel
theorem dX8_lay_18 : decode cX8_lay 18 = .ok (.bipush 16, 2) := by decide +kernel
theorem dX8_lay_20 : decode cX8_lay 20 = .ok (.iconst 3, 1) := by decide +kernel
theorem dX8_lay_21 : decode cX8_lay 21 = .ok (.iload 6, 2) := by decide +kernel
theorem dX8_lay_23 : decode cX8_lay 23 = .ok (.imul, 1) := by decide +kernel
theorem dX8_lay_24 : decode cX8_lay 24 = .ok (.iadd, 1) := by decide +kernel
theorem dX8_lay_25 : decode cX8_lay 25 = .ok (.iload_n 1, 1) := by decide +kernel
theorem dX8_lay_26 : decode cX8_lay 26 = .ok (.iadd, 1) := by decide +kernel
theorem dX8_lay_27 : decode cX8_lay 27 = .ok (.iaload, 1) := by decide +kernel
theorem dX8_lay_28 : decode cX8_lay 28 = .ok (.iload 4, 2) := by decide +kernel
theorem dX8_lay_30 : decode cX8_lay 30 = .ok (.if_icmp .ne 7, 3) := by decide +kernel
theorem dX8_lay_33 : decode cX8_lay 33 = .ok (.iconst 0, 1) := by decide +kernel
theorem dX8_lay_34 : decode cX8_lay 34 = .ok (.goto 4, 3) := by decide +kernel
theorem dX8_lay_37 : decode cX8_lay 37 = .ok (.iconst 1, 1) := by decide +kernel
theorem dX8_lay_38 : decode cX8_lay 38 = .ok (.iadd, 1) := by decide +kernel
theorem dX8_lay_39 : decode cX8_lay 39 = .ok (.istore 5, 2) := by decide +kernel
theorem dX8_lay_41 : decode cX8_lay 41 = .ok (.aload_n 0, 1) := by decide +kernel
theorem dX8_lay_42 : decode cX8_lay 42 = .ok (.getfield 7, 3) := by decide +kernel
theorem dX8_lay_45 : decode cX8_lay 45 = .ok (.bipush 16, 2) := by decide +kernel
theorem dX8_lay_47 : decode cX8_lay 47 = .ok (.iconst 3, 1) := by decide +kernel
theorem dX8_lay_48 : decode cX8_lay 48 = .ok (.iload 6, 2) := by decide +kernel
theorem dX8_lay_50 : decode cX8_lay 50 = .ok (.imul, 1) := by decide +kernel
theorem dX8_lay_51 : decode cX8_lay 51 = .ok (.iadd, 1) := by decide +kernel
theorem dX8_lay_52 : decode cX8_lay 52 = .ok (.iload_n 1, 1) := by decide +kernel
theorem dX8_lay_53 : decode cX8_lay 53 = .ok (.iadd, 1) := by decide +kernel
theorem dX8_lay_54 : decode cX8_lay 54 = .ok (.iload 4, 2) := by decide +kernel
theorem dX8_lay_56 : decode cX8_lay 56 = .ok (.iastore, 1) := by decide +kernel
theorem dX8_lay_57 : decode cX8_lay 57 = .ok (.iinc 6 1, 3) := by decide +kernel
theorem dX8_lay_60 : decode cX8_lay 60 = .ok (.goto (-54), 3) := by decide +kernel
theorem dX8_lay_63 : decode cX8_lay 63 = .ok (.iload 5, 2) := by decide +kernel
theorem dX8_lay_65 : decode cX8_lay 65 = .ok (.ireturn, 1) := by decide +kernel
theorem dX8_lays_0 : decode cX8_lays 0 = .ok (.aload_n 0, 1) := by decide +kernel
theorem dX8_lays_1 : decode cX8_lays 1 = .ok (.iload_n 1, 1) := by decide +kernel
theorem dX8_lays_2 : decode cX8_lays 2 = .ok (.iload_n 2, 1) := by decide +kernel
theorem dX8_lays_3 : decode cX8_lays 3 = .ok (.iload_n 3, 1) := by decide +kernel
theorem dX8_lays_4 : decode cX8_lays 4 = .ok (.iload 4, 2) := by decide +kernel
theorem dX8_lays_6 : decode cX8_lays 6 = .ok (.invokevirtual 73, 3) := by decide +kernel
theorem dX8_lays_9 : decode cX8_lays 9 = .ok (.ifCond .ne 8, 3) := by decide +kernel
theorem dX8_lays_12 : decode cX8_lays 12 = .ok (.aload_n 0, 1) := by decide +kernel
theorem dX8_lays_13 : decode cX8_lays 13 = .ok (.invokevirtual 60, 3) := by decide +kernel
theorem dX8_lays_16 : decode cX8_lays 16 = .ok (.ireturn, 1) := by decide +kernel
theorem dX8_lays_17 : decode cX8_lays 17 = .ok (.aload_n 0, 1) := by decide +kernel
theorem dX8_lays_18 : decode cX8_lays 18 = .ok (.invokevirtual 64, 3) := by decide +kernel
theorem dX8_lays_21 : decode cX8_lays 21 = .ok (.aload_n 0, 1) := by decide +kernel
theorem dX8_lays_22 : decode cX8_lays 22 = .ok (.iload_n 1, 1) := by decide +kernel
theorem dX8_lays_23 : decode cX8_lays 23 = .ok (.iload_n 2, 1) := by decide +kernel
theorem dX8_lays_24 : decode cX8_lays 24 = .ok (.iload_n 3, 1) := by decide +kernel
theorem dX8_lays_25 : decode cX8_lays 25 = .ok (.iload 4, 2) := by decide +kernel
theorem dX8_lays_27 : decode cX8_lays 27 = .ok (.invokevirtual 77, 3) := by decide +kernel
theorem dX8_lays_30 : decode cX8_lays 30 = .ok (.ireturn, 1) := by decide +kernel
theorem dX8_signal_0 : decode cX8_signal 0 = .ok (.aload_n 0, 1) := by decide +kernel
theorem dX8_signal_1 : decode cX8_signal 1 = .ok (.getfield 7, 3) := by decide +kernel
theorem dX8_signal_4 : decode cX8_signal 4 = .ok (.bipush 16, 2) := by decide +kernel
theorem dX8_signal_6 : decode cX8_signal 6 = .ok (.iconst 3, 1) := by decide +kernel
theorem dX8_signal_7 : decode cX8_signal 7 = .ok (.iload_n 1, 1) := by decide +kernel
theorem dX8_signal_8 : decode cX8_signal 8 = .ok (.imul, 1) := by decide +kernel
theorem dX8_signal_9 : decode cX8_signal 9 = .ok (.iadd, 1) := by decide +kernel
theorem dX8_signal_10 : decode cX8_signal 10 = .ok (.iconst 2, 1) := by decide +kernel
theorem dX8_signal_11 : decode cX8_signal 11 = .ok (.iadd, 1) := by decide +kernel
theorem dX8_signal_12 : decode cX8_signal 12 = .ok (.iaload, 1) := by decide +kernel
theorem dX8_signal_13 : decode cX8_signal 13 = .ok (.istore_n 3, 1) := by decide +kernel
theorem dX8_signal_14 : decode cX8_signal 14 = .ok (.aload_n 0, 1) := by decide +kernel
theorem dX8_signal_15 : decode cX8_signal 15 = .ok (.getfield 7, 3) := by decide +kernel
theorem dX8_signal_18 : decode cX8_signal 18 = .ok (.bipush 16, 2) := by decide +kernel
theorem dX8_signal_20 : decode cX8_signal 20 = .ok (.iconst 3, 1) := by decide +kernel
theorem dX8_signal_21 : decode cX8_signal 21 = .ok (.iload_n 1, 1) := by decide +kernel
theorem dX8_signal_22 : decode cX8_signal 22 = .ok (.imul, 1) := by decide +kernel
theorem dX8_signal_23 : decode cX8_signal 23 = .ok (.iadd, 1) := by decide +kernel
theorem dX8_signal_24 : decode cX8_signal 24 = .ok (.iconst 2, 1) := by decide +kernel
theorem dX8_signal_25 : decode cX8_signal 25 = .ok (.iadd, 1) := by decide +kernel
theorem dX8_signal_26 : decode cX8_signal 26 = .ok (.iload_n 2, 1) := by decide +kernel
theorem dX8_signal_27 : decode cX8_signal 27 = .ok (.iastore, 1) := by decide +kernel
theorem dX8_signal_28 : decode cX8_signal 28 = .ok (.iload_n 3, 1) := by decide +kernel
theorem dX8_signal_29 : decode cX8_signal 29 = .ok (.ireturn, 1) := by decide +kernel
theorem dX8_beacon_0 : decode cX8_beacon 0 = .ok (.aload_n 0, 1) := by decide +kernel
theorem dX8_beacon_1 : decode cX8_beacon 1 = .ok (.iload_n 1, 1) := by decide +kernel
theorem dX8_beacon_2 : decode cX8_beacon 2 = .ok (.invokevirtual 70, 3) := by decide +kernel
theorem dX8_beacon_5 : decode cX8_beacon 5 = .ok (.ifCond .eq 12, 3) := by decide +kernel
theorem dX8_beacon_8 : decode cX8_beacon 8 = .ok (.iload_n 2, 1) := by decide +kernel
theorem dX8_beacon_9 : decode cX8_beacon 9 = .ok (.iconst 0, 1) := by decide +kernel
theorem dX8_beacon_10 : decode cX8_beacon 10 = .ok (.iconst 1, 1) := by decide +kernel
theorem dX8_beacon_11 : decode cX8_beacon 11 = .ok (.invokestatic 45, 3) := by decide +kernel
theorem dX8_beacon_14 : decode cX8_beacon 14 = .ok (.ifCond .ne 8, 3) := by decide +kernel
theorem dX8_beacon_17 : decode cX8_beacon 17 = .ok (.aload_n 0, 1) := by decide +kernel
theorem dX8_beacon_18 : decode cX8_beacon 18 = .ok (.invokevirtual 60, 3) := by decide +kernel
theorem dX8_beacon_21 : decode cX8_beacon 21 = .ok (.ireturn, 1) := by decide +kernel
theorem dX8_beacon_22 : decode cX8_beacon 22 = .ok (.aload_n 0, 1) := by decide +kernel
theorem dX8_beacon_23 : decode cX8_beacon 23 = .ok (.invokevirtual 64, 3) := by decide +kernel
theorem dX8_beacon_26 : decode cX8_beacon 26 = .ok (.aload_n 0, 1) := by decide +kernel
theorem dX8_beacon_27 : decode cX8_beacon 27 = .ok (.iload_n 1, 1) := by decide +kernel
theorem dX8_beacon_28 : decode cX8_beacon 28 = .ok (.iload_n 2, 1) := by decide +kernel
theorem dX8_beacon_29 : decode cX8_beacon 29 = .ok (.invokevirtual 81, 3) := by decide +kernel
theorem dX8_beacon_32 : decode cX8_beacon 32 = .ok (.ireturn, 1) := by decide +kernel
theorem dX8_maySet_0 : decode cX8_maySet 0 = .ok (.iload_n 0, 1) := by decide +kernel
theorem dX8_maySet_1 : decode cX8_maySet 1 = .ok (.tableswitch 63 0 3 #[31, 39, 47, 55], 31) := by decide +kernel
theorem dX8_maySet_32 : decode cX8_maySet 32 = .ok (.iload_n 1, 1) := by decide +kernel
theorem dX8_maySet_33 : decode cX8_maySet 33 = .ok (.iconst 1, 1) := by decide +kernel
theorem dX8_maySet_34 : decode cX8_maySet 34 = .ok (.bipush 60, 2) := by decide +kernel
theorem dX8_maySet_36 : decode cX8_maySet 36 = .ok (.invokestatic 45, 3) := by decide +kernel
theorem dX8_maySet_39 : decode cX8_maySet 39 = .ok (.ireturn, 1) := by decide +kernel
theorem dX8_maySet_40 : decode cX8_maySet 40 = .ok (.iload_n 1, 1) := by decide +kernel
theorem dX8_maySet_41 : decode cX8_maySet 41 = .ok (.iconst 0, 1) := by decide +kernel
theorem dX8_maySet_42 : decode cX8_maySet 42 = .ok (.bipush 30, 2) := by decide +kernel
theorem dX8_maySet_44 : decode cX8_maySet 44 = .ok (.invokestatic 45, 3) := by decide +kernel
theorem dX8_maySet_47 : decode cX8_maySet 47 = .ok (.ireturn, 1) := by decide +kernel
theorem dX8_maySet_48 : decode cX8_maySet 48 = .ok (.iload_n 1, 1) := by decide +kernel
theorem dX8_maySet_49 : decode cX8_maySet 49 = .ok (.iconst 1, 1) := by decide +kernel
theorem dX8_maySet_50 : decode cX8_maySet 50 = .ok (.bipush 30, 2) := by decide +kernel
theorem dX8_maySet_52 : decode cX8_maySet 52 = .ok (.invokestatic 45, 3) := by decide +kernel
theorem dX8_maySet_55 : decode cX8_maySet 55 = .ok (.ireturn, 1) := by decide +kernel
theorem dX8_maySet_56 : decode cX8_maySet 56 = .ok (.iload_n 1, 1) := by decide +kernel
theorem dX8_maySet_57 : decode cX8_maySet 57 = .ok (.iconst 0, 1) := by decide +kernel
theorem dX8_maySet_58 : decode cX8_maySet 58 = .ok (.bipush 100, 2) := by decide +kernel
theorem dX8_maySet_60 : decode cX8_maySet 60 = .ok (.invokestatic 45, 3) := by decide +kernel
theorem dX8_maySet_63 : decode cX8_maySet 63 = .ok (.ireturn, 1) := by decide +kernel
theorem dX8_maySet_64 : decode cX8_maySet 64 = .ok (.iload_n 0, 1) := by decide +kernel
theorem dX8_maySet_65 : decode cX8_maySet 65 = .ok (.iconst 4, 1) := by decide +kernel
theorem dX8_maySet_66 : decode cX8_maySet 66 = .ok (.bipush 6, 2) := by decide +kernel
theorem dX8_maySet_68 : decode cX8_maySet 68 = .ok (.invokestatic 45, 3) := by decide +kernel
theorem dX8_maySet_71 : decode cX8_maySet 71 = .ok (.ifCond .eq 17, 3) := by decide +kernel
theorem dX8_maySet_74 : decode cX8_maySet 74 = .ok (.iload_n 1, 1) := by decide +kernel
theorem dX8_maySet_75 : decode cX8_maySet 75 = .ok (.iconst 0, 1) := by decide +kernel
theorem dX8_maySet_76 : decode cX8_maySet 76 = .ok (.bipush 9, 2) := by decide +kernel
theorem dX8_maySet_78 : decode cX8_maySet 78 = .ok (.invokestatic 45, 3) := by decide +kernel
theorem dX8_maySet_81 : decode cX8_maySet 81 = .ok (.ifCond .eq 7, 3) := by decide +kernel
theorem dX8_maySet_84 : decode cX8_maySet 84 = .ok (.iconst 1, 1) := by decide +kernel
theorem dX8_maySet_85 : decode cX8_maySet 85 = .ok (.goto 4, 3) := by decide +kernel
theorem dX8_maySet_88 : decode cX8_maySet 88 = .ok (.iconst 0, 1) := by decide +kernel
theorem dX8_maySet_89 : decode cX8_maySet 89 = .ok (.ireturn, 1) := by decide +kernel
theorem dX8_set_0 : decode cX8_set 0 = .ok (.aload_n 0, 1) := by decide +kernel
theorem dX8_set_1 : decode cX8_set 1 = .ok (.getfield 7, 3) := by decide +kernel
theorem dX8_set_4 : decode cX8_set 4 = .ok (.iconst 1, 1) := by decide +kernel
theorem dX8_set_5 : decode cX8_set 5 = .ok (.iload_n 1, 1) := by decide +kernel
theorem dX8_set_6 : decode cX8_set 6 = .ok (.iadd, 1) := by decide +kernel
theorem dX8_set_7 : decode cX8_set 7 = .ok (.iaload, 1) := by decide +kernel
theorem dX8_set_8 : decode cX8_set 8 = .ok (.istore_n 3, 1) := by decide +kernel
theorem dX8_set_9 : decode cX8_set 9 = .ok (.aload_n 0, 1) := by decide +kernel
theorem dX8_set_10 : decode cX8_set 10 = .ok (.getfield 7, 3) := by decide +kernel
theorem dX8_set_13 : decode cX8_set 13 = .ok (.iconst 1, 1) := by decide +kernel
theorem dX8_set_14 : decode cX8_set 14 = .ok (.iload_n 1, 1) := by decide +kernel
theorem dX8_set_15 : decode cX8_set 15 = .ok (.iadd, 1) := by decide +kernel
theorem dX8_set_16 : decode cX8_set 16 = .ok (.iload_n 2, 1) := by decide +kernel
theorem dX8_set_17 : decode cX8_set 17 = .ok (.iastore, 1) := by decide +kernel
theorem dX8_set_18 : decode cX8_set 18 = .ok (.iload_n 3, 1) := by decide +kernel
theorem dX8_set_19 : decode cX8_set 19 = .ok (.ireturn, 1) := by decide +kernel
theorem dX8_sets_0 : decode cX8_sets 0 = .ok (.iload_n 1, 1) := by decide +kernel
theorem dX8_sets_1 : decode cX8_sets 1 = .ok (.iload_n 2, 1) := by decide +kernel
theorem dX8_sets_2 : decode cX8_sets 2 = .ok (.invokestatic 85, 3) := by decide +kernel
theorem dX8_sets_5 : decode cX8_sets 5 = .ok (.ifCond .ne 8, 3) := by decide +kernel
theorem dX8_sets_8 : decode cX8_sets 8 = .ok (.aload_n 0, 1) := by decide +kernel
theorem dX8_sets_9 : decode cX8_sets 9 = .ok (.invokevirtual 60, 3) := by decide +kernel
theorem dX8_sets_12 : decode cX8_sets 12 = .ok (.ireturn, 1) := by decide +kernel
theorem dX8_sets_13 : decode cX8_sets 13 = .ok (.aload_n 0, 1) := by decide +kernel
theorem dX8_sets_14 : decode cX8_sets 14 = .ok (.invokevirtual 64, 3) := by decide +kernel
theorem dX8_sets_17 : decode cX8_sets 17 = .ok (.aload_n 0, 1) := by decide +kernel
theorem dX8_sets_18 : decode cX8_sets 18 = .ok (.iload_n 1, 1) := by decide +kernel
theorem dX8_sets_19 : decode cX8_sets 19 = .ok (.iload_n 2, 1) := by decide +kernel
theorem dX8_sets_20 : decode cX8_sets 20 = .ok (.invokevirtual 89, 3) := by decide +kernel
theorem dX8_sets_23 : decode cX8_sets 23 = .ok (.ireturn, 1) := by decide +kernel
theorem dX8_tellCell_0 : decode cX8_tellCell 0 = .ok (.iload_n 2, 1) := by decide +kernel
theorem dX8_tellCell_1 : decode cX8_tellCell 1 = .ok (.tableswitch 66 0 3 #[31, 37, 46, 60], 31) := by decide +kernel
theorem dX8_tellCell_32 : decode cX8_tellCell 32 = .ok (.aload_n 0, 1) := by decide +kernel
theorem dX8_tellCell_33 : decode cX8_tellCell 33 = .ok (.iload_n 1, 1) := by decide +kernel
theorem dX8_tellCell_34 : decode cX8_tellCell 34 = .ok (.invokevirtual 53, 3) := by decide +kernel
theorem dX8_tellCell_37 : decode cX8_tellCell 37 = .ok (.ireturn, 1) := by decide +kernel
theorem dX8_tellCell_38 : decode cX8_tellCell 38 = .ok (.aload_n 0, 1) := by decide +kernel
theorem dX8_tellCell_39 : decode cX8_tellCell 39 = .ok (.iload_n 1, 1) := by decide +kernel
theorem dX8_tellCell_40 : decode cX8_tellCell 40 = .ok (.invokevirtual 49, 3) := by decide +kernel
theorem dX8_tellCell_43 : decode cX8_tellCell 43 = .ok (.bipush 20, 2) := by decide +kernel
theorem dX8_tellCell_45 : decode cX8_tellCell 45 = .ok (.iadd, 1) := by decide +kernel
theorem dX8_tellCell_46 : decode cX8_tellCell 46 = .ok (.ireturn, 1) := by decide +kernel
theorem dX8_tellCell_47 : decode cX8_tellCell 47 = .ok (.aload_n 0, 1) := by decide +kernel
theorem dX8_tellCell_48 : decode cX8_tellCell 48 = .ok (.getfield 7, 3) := by decide +kernel
theorem dX8_tellCell_51 : decode cX8_tellCell 51 = .ok (.bipush 16, 2) := by decide +kernel
theorem dX8_tellCell_53 : decode cX8_tellCell 53 = .ok (.iconst 3, 1) := by decide +kernel
theorem dX8_tellCell_54 : decode cX8_tellCell 54 = .ok (.iload_n 1, 1) := by decide +kernel
theorem dX8_tellCell_55 : decode cX8_tellCell 55 = .ok (.imul, 1) := by decide +kernel
theorem dX8_tellCell_56 : decode cX8_tellCell 56 = .ok (.iadd, 1) := by decide +kernel
theorem dX8_tellCell_57 : decode cX8_tellCell 57 = .ok (.iconst 2, 1) := by decide +kernel
theorem dX8_tellCell_58 : decode cX8_tellCell 58 = .ok (.iadd, 1) := by decide +kernel
theorem dX8_tellCell_59 : decode cX8_tellCell 59 = .ok (.iaload, 1) := by decide +kernel
theorem dX8_tellCell_60 : decode cX8_tellCell 60 = .ok (.ireturn, 1) := by decide +kernel
theorem dX8_tellCell_61 : decode cX8_tellCell 61 = .ok (.aload_n 0, 1) := by decide +kernel
theorem dX8_tellCell_62 : decode cX8_tellCell 62 = .ok (.iload_n 1, 1) := by decide +kernel
theorem dX8_tellCell_63 : decode cX8_tellCell 63 = .ok (.invokevirtual 92, 3) := by decide +kernel
theorem dX8_tellCell_66 : decode cX8_tellCell 66 = .ok (.ireturn, 1) := by decide +kernel
theorem dX8_tellCell_67 : decode cX8_tellCell 67 = .ok (.aload_n 0, 1) := by decide +kernel
theorem dX8_tellCell_68 : decode cX8_tellCell 68 = .ok (.iload_n 1, 1) := by decide +kernel
theorem dX8_tellCell_69 : decode cX8_tellCell 69 = .ok (.invokevirtual 95, 3) := by decide +kernel
theorem dX8_tellCell_72 : decode cX8_tellCell 72 = .ok (.ireturn, 1) := by decide +kernel
theorem dX8_cell_0 : decode cX8_cell 0 = .ok (.aload_n 0, 1) := by decide +kernel
theorem dX8_cell_1 : decode cX8_cell 1 = .ok (.iload_n 1, 1) := by decide +kernel
theorem dX8_cell_2 : decode cX8_cell 2 = .ok (.invokevirtual 70, 3) := by decide +kernel
theorem dX8_cell_5 : decode cX8_cell 5 = .ok (.ifCond .eq 21, 3) := by decide +kernel
theorem dX8_cell_8 : decode cX8_cell 8 = .ok (.iload_n 2, 1) := by decide +kernel
theorem dX8_cell_9 : decode cX8_cell 9 = .ok (.iconst 0, 1) := by decide +kernel
theorem dX8_cell_10 : decode cX8_cell 10 = .ok (.iconst 4, 1) := by decide +kernel
theorem dX8_cell_11 : decode cX8_cell 11 = .ok (.invokestatic 45, 3) := by decide +kernel
theorem dX8_cell_14 : decode cX8_cell 14 = .ok (.ifCond .eq 12, 3) := by decide +kernel
theorem dX8_cell_17 : decode cX8_cell 17 = .ok (.aload_n 0, 1) := by decide +kernel
theorem dX8_cell_18 : decode cX8_cell 18 = .ok (.iload_n 1, 1) := by decide +kernel
theorem dX8_cell_19 : decode cX8_cell 19 = .ok (.iload_n 2, 1) := by decide +kernel
theorem dX8_cell_20 : decode cX8_cell 20 = .ok (.invokevirtual 98, 3) := by decide +kernel
theorem dX8_cell_23 : decode cX8_cell 23 = .ok (.goto 7, 3) := by decide +kernel
theorem dX8_cell_26 : decode cX8_cell 26 = .ok (.aload_n 0, 1) := by decide +kernel
theorem dX8_cell_27 : decode cX8_cell 27 = .ok (.invokevirtual 60, 3) := by decide +kernel
theorem dX8_cell_30 : decode cX8_cell 30 = .ok (.ireturn, 1) := by decide +kernel
theorem dX8_lawfuls_0 : decode cX8_lawfuls 0 = .ok (.aload_n 0, 1) := by decide +kernel
theorem dX8_lawfuls_1 : decode cX8_lawfuls 1 = .ok (.getfield 20, 3) := by decide +kernel
theorem dX8_lawfuls_4 : decode cX8_lawfuls 4 = .ok (.aload_n 0, 1) := by decide +kernel
theorem dX8_lawfuls_5 : decode cX8_lawfuls 5 = .ok (.getfield 7, 3) := by decide +kernel
theorem dX8_lawfuls_8 : decode cX8_lawfuls 8 = .ok (.iconst 0, 1) := by decide +kernel
theorem dX8_lawfuls_9 : decode cX8_lawfuls 9 = .ok (.iaload, 1) := by decide +kernel
theorem dX8_lawfuls_10 : decode cX8_lawfuls 10 = .ok (.iconst 0, 1) := by decide +kernel
theorem dX8_lawfuls_11 : decode cX8_lawfuls 11 = .ok (.iastore, 1) := by decide +kernel
theorem dX8_lawfuls_12 : decode cX8_lawfuls 12 = .ok (.aload_n 0, 1) := by decide +kernel
theorem dX8_lawfuls_13 : decode cX8_lawfuls 13 = .ok (.getfield 7, 3) := by decide +kernel
theorem dX8_lawfuls_16 : decode cX8_lawfuls 16 = .ok (.iconst 0, 1) := by decide +kernel
theorem dX8_lawfuls_17 : decode cX8_lawfuls 17 = .ok (.iaload, 1) := by decide +kernel
theorem dX8_lawfuls_18 : decode cX8_lawfuls 18 = .ok (.iconst 1, 1) := by decide +kernel
theorem dX8_lawfuls_19 : decode cX8_lawfuls 19 = .ok (.isub, 1) := by decide +kernel
theorem dX8_lawfuls_20 : decode cX8_lawfuls 20 = .ok (.istore_n 1, 1) := by decide +kernel
theorem dX8_lawfuls_21 : decode cX8_lawfuls 21 = .ok (.iload_n 1, 1) := by decide +kernel
theorem dX8_lawfuls_22 : decode cX8_lawfuls 22 = .ok (.ifCond .lt 52, 3) := by decide +kernel
theorem dX8_lawfuls_25 : decode cX8_lawfuls 25 = .ok (.aload_n 0, 1) := by decide +kernel
theorem dX8_lawfuls_26 : decode cX8_lawfuls 26 = .ok (.iload_n 1, 1) := by decide +kernel
theorem dX8_lawfuls_27 : decode cX8_lawfuls 27 = .ok (.invokevirtual 95, 3) := by decide +kernel
theorem dX8_lawfuls_30 : decode cX8_lawfuls 30 = .ok (.aload_n 0, 1) := by decide +kernel
theorem dX8_lawfuls_31 : decode cX8_lawfuls 31 = .ok (.iload_n 1, 1) := by decide +kernel
theorem dX8_lawfuls_32 : decode cX8_lawfuls 32 = .ok (.invokevirtual 95, 3) := by decide +kernel
theorem dX8_lawfuls_35 : decode cX8_lawfuls 35 = .ok (.imul, 1) := by decide +kernel
theorem dX8_lawfuls_36 : decode cX8_lawfuls 36 = .ok (.istore_n 2, 1) := by decide +kernel
theorem dX8_lawfuls_37 : decode cX8_lawfuls 37 = .ok (.aload_n 0, 1) := by decide +kernel
theorem dX8_lawfuls_38 : decode cX8_lawfuls 38 = .ok (.getfield 20, 3) := by decide +kernel
theorem dX8_lawfuls_41 : decode cX8_lawfuls 41 = .ok (.iload_n 1, 1) := by decide +kernel
theorem dX8_lawfuls_42 : decode cX8_lawfuls 42 = .ok (.iconst 1, 1) := by decide +kernel
theorem dX8_lawfuls_43 : decode cX8_lawfuls 43 = .ok (.iadd, 1) := by decide +kernel
theorem dX8_lawfuls_44 : decode cX8_lawfuls 44 = .ok (.iaload, 1) := by decide +kernel
theorem dX8_lawfuls_45 : decode cX8_lawfuls 45 = .ok (.aload_n 0, 1) := by decide +kernel
theorem dX8_lawfuls_46 : decode cX8_lawfuls 46 = .ok (.iload_n 1, 1) := by decide +kernel
theorem dX8_lawfuls_47 : decode cX8_lawfuls 47 = .ok (.invokevirtual 92, 3) := by decide +kernel
theorem dX8_lawfuls_50 : decode cX8_lawfuls 50 = .ok (.iadd, 1) := by decide +kernel
theorem dX8_lawfuls_51 : decode cX8_lawfuls 51 = .ok (.istore_n 3, 1) := by decide +kernel
theorem dX8_lawfuls_52 : decode cX8_lawfuls 52 = .ok (.aload_n 0, 1) := by decide +kernel
theorem dX8_lawfuls_53 : decode cX8_lawfuls 53 = .ok (.getfield 20, 3) := by decide +kernel
theorem dX8_lawfuls_56 : decode cX8_lawfuls 56 = .ok (.iload_n 1, 1) := by decide +kernel
theorem dX8_lawfuls_57 : decode cX8_lawfuls 57 = .ok (.iload_n 2, 1) := by decide +kernel
theorem dX8_lawfuls_58 : decode cX8_lawfuls 58 = .ok (.iload_n 3, 1) := by decide +kernel
theorem dX8_lawfuls_59 : decode cX8_lawfuls 59 = .ok (.if_icmp .ge 7, 3) := by decide +kernel
theorem dX8_lawfuls_62 : decode cX8_lawfuls 62 = .ok (.iload_n 2, 1) := by decide +kernel
theorem dX8_lawfuls_63 : decode cX8_lawfuls 63 = .ok (.goto 4, 3) := by decide +kernel
theorem dX8_lawfuls_66 : decode cX8_lawfuls 66 = .ok (.iload_n 3, 1) := by decide +kernel
theorem dX8_lawfuls_67 : decode cX8_lawfuls 67 = .ok (.iastore, 1) := by decide +kernel
theorem dX8_lawfuls_68 : decode cX8_lawfuls 68 = .ok (.iinc 1 (-1), 3) := by decide +kernel
theorem dX8_lawfuls_71 : decode cX8_lawfuls 71 = .ok (.goto (-50), 3) := by decide +kernel
theorem dX8_lawfuls_74 : decode cX8_lawfuls 74 = .ok (.return_, 1) := by decide +kernel
theorem dX8_root_0 : decode cX8_root 0 = .ok (.iconst 0, 1) := by decide +kernel
theorem dX8_root_1 : decode cX8_root 1 = .ok (.istore_n 1, 1) := by decide +kernel
theorem dX8_root_2 : decode cX8_root 2 = .ok (.iload_n 1, 1) := by decide +kernel
theorem dX8_root_3 : decode cX8_root 3 = .ok (.iconst 1, 1) := by decide +kernel
theorem dX8_root_4 : decode cX8_root 4 = .ok (.iadd, 1) := by decide +kernel
theorem dX8_root_5 : decode cX8_root 5 = .ok (.iload_n 1, 1) := by decide +kernel
theorem dX8_root_6 : decode cX8_root 6 = .ok (.iconst 1, 1) := by decide +kernel
theorem dX8_root_7 : decode cX8_root 7 = .ok (.iadd, 1) := by decide +kernel
theorem dX8_root_8 : decode cX8_root 8 = .ok (.imul, 1) := by decide +kernel
theorem dX8_root_9 : decode cX8_root 9 = .ok (.iload_n 0, 1) := by decide +kernel
theorem dX8_root_10 : decode cX8_root 10 = .ok (.if_icmp .gt 9, 3) := by decide +kernel
theorem dX8_root_13 : decode cX8_root 13 = .ok (.iinc 1 1, 3) := by decide +kernel
theorem dX8_root_16 : decode cX8_root 16 = .ok (.goto (-14), 3) := by decide +kernel
theorem dX8_root_19 : decode cX8_root 19 = .ok (.iload_n 1, 1) := by decide +kernel
theorem dX8_root_20 : decode cX8_root 20 = .ok (.ireturn, 1) := by decide +kernel
theorem dX8_lawful_0 : decode cX8_lawful 0 = .ok (.aload_n 0, 1) := by decide +kernel
theorem dX8_lawful_1 : decode cX8_lawful 1 = .ok (.iload_n 1, 1) := by decide +kernel
theorem dX8_lawful_2 : decode cX8_lawful 2 = .ok (.invokevirtual 70, 3) := by decide +kernel
theorem dX8_lawful_5 : decode cX8_lawful 5 = .ok (.ifCond .ne 8, 3) := by decide +kernel
theorem dX8_lawful_8 : decode cX8_lawful 8 = .ok (.aload_n 0, 1) := by decide +kernel
theorem dX8_lawful_9 : decode cX8_lawful 9 = .ok (.invokevirtual 60, 3) := by decide +kernel
theorem dX8_lawful_12 : decode cX8_lawful 12 = .ok (.ireturn, 1) := by decide +kernel
theorem dX8_lawful_13 : decode cX8_lawful 13 = .ok (.aload_n 0, 1) := by decide +kernel
theorem dX8_lawful_14 : decode cX8_lawful 14 = .ok (.invokevirtual 101, 3) := by decide +kernel
theorem dX8_lawful_17 : decode cX8_lawful 17 = .ok (.aload_n 0, 1) := by decide +kernel
theorem dX8_lawful_18 : decode cX8_lawful 18 = .ok (.getfield 20, 3) := by decide +kernel
theorem dX8_lawful_21 : decode cX8_lawful 21 = .ok (.iload_n 1, 1) := by decide +kernel
theorem dX8_lawful_22 : decode cX8_lawful 22 = .ok (.iaload, 1) := by decide +kernel
theorem dX8_lawful_23 : decode cX8_lawful 23 = .ok (.ireturn, 1) := by decide +kernel
theorem dX8_permitted_0 : decode cX8_permitted 0 = .ok (.aload_n 0, 1) := by decide +kernel
theorem dX8_permitted_1 : decode cX8_permitted 1 = .ok (.iload_n 1, 1) := by decide +kernel
theorem dX8_permitted_2 : decode cX8_permitted 2 = .ok (.invokevirtual 70, 3) := by decide +kernel
theorem dX8_permitted_5 : decode cX8_permitted 5 = .ok (.ifCond .ne 8, 3) := by decide +kernel
theorem dX8_permitted_8 : decode cX8_permitted 8 = .ok (.aload_n 0, 1) := by decide +kernel
theorem dX8_permitted_9 : decode cX8_permitted 9 = .ok (.invokevirtual 60, 3) := by decide +kernel
theorem dX8_permitted_12 : decode cX8_permitted 12 = .ok (.ireturn, 1) := by decide +kernel
theorem dX8_permitted_13 : decode cX8_permitted 13 = .ok (.aload_n 0, 1) := by decide +kernel
theorem dX8_permitted_14 : decode cX8_permitted 14 = .ok (.invokevirtual 101, 3) := by decide +kernel
theorem dX8_permitted_17 : decode cX8_permitted 17 = .ok (.aload_n 0, 1) := by decide +kernel
theorem dX8_permitted_18 : decode cX8_permitted 18 = .ok (.getfield 20, 3) := by decide +kernel
theorem dX8_permitted_21 : decode cX8_permitted 21 = .ok (.iload_n 1, 1) := by decide +kernel
theorem dX8_permitted_22 : decode cX8_permitted 22 = .ok (.iaload, 1) := by decide +kernel
theorem dX8_permitted_23 : decode cX8_permitted 23 = .ok (.invokestatic 104, 3) := by decide +kernel
theorem dX8_permitted_26 : decode cX8_permitted 26 = .ok (.ireturn, 1) := by decide +kernel
theorem dX8_bound_0 : decode cX8_bound 0 = .ok (.aload_n 0, 1) := by decide +kernel
theorem dX8_bound_1 : decode cX8_bound 1 = .ok (.iload_n 1, 1) := by decide +kernel
theorem dX8_bound_2 : decode cX8_bound 2 = .ok (.invokevirtual 70, 3) := by decide +kernel
theorem dX8_bound_5 : decode cX8_bound 5 = .ok (.ifCond .ne 8, 3) := by decide +kernel
theorem dX8_bound_8 : decode cX8_bound 8 = .ok (.aload_n 0, 1) := by decide +kernel
theorem dX8_bound_9 : decode cX8_bound 9 = .ok (.invokevirtual 60, 3) := by decide +kernel
theorem dX8_bound_12 : decode cX8_bound 12 = .ok (.ireturn, 1) := by decide +kernel
theorem dX8_bound_13 : decode cX8_bound 13 = .ok (.aload_n 0, 1) := by decide +kernel
theorem dX8_bound_14 : decode cX8_bound 14 = .ok (.invokevirtual 101, 3) := by decide +kernel
theorem dX8_bound_17 : decode cX8_bound 17 = .ok (.iconst 0, 1) := by decide +kernel
theorem dX8_bound_18 : decode cX8_bound 18 = .ok (.istore_n 2, 1) := by decide +kernel
theorem dX8_bound_19 : decode cX8_bound 19 = .ok (.iload_n 1, 1) := by decide +kernel
theorem dX8_bound_20 : decode cX8_bound 20 = .ok (.istore_n 3, 1) := by decide +kernel
theorem dX8_bound_21 : decode cX8_bound 21 = .ok (.iload_n 3, 1) := by decide +kernel
theorem dX8_bound_22 : decode cX8_bound 22 = .ok (.aload_n 0, 1) := by decide +kernel
theorem dX8_bound_23 : decode cX8_bound 23 = .ok (.getfield 7, 3) := by decide +kernel
theorem dX8_bound_26 : decode cX8_bound 26 = .ok (.iconst 0, 1) := by decide +kernel
theorem dX8_bound_27 : decode cX8_bound 27 = .ok (.iaload, 1) := by decide +kernel
theorem dX8_bound_28 : decode cX8_bound 28 = .ok (.if_icmp .ge 41, 3) := by decide +kernel
theorem dX8_bound_31 : decode cX8_bound 31 = .ok (.aload_n 0, 1) := by decide +kernel
theorem dX8_bound_32 : decode cX8_bound 32 = .ok (.getfield 20, 3) := by decide +kernel
theorem dX8_bound_35 : decode cX8_bound 35 = .ok (.iload_n 1, 1) := by decide +kernel
theorem dX8_bound_36 : decode cX8_bound 36 = .ok (.iaload, 1) := by decide +kernel
theorem dX8_bound_37 : decode cX8_bound 37 = .ok (.aload_n 0, 1) := by decide +kernel
theorem dX8_bound_38 : decode cX8_bound 38 = .ok (.iload_n 3, 1) := by decide +kernel
theorem dX8_bound_39 : decode cX8_bound 39 = .ok (.invokevirtual 95, 3) := by decide +kernel
theorem dX8_bound_42 : decode cX8_bound 42 = .ok (.aload_n 0, 1) := by decide +kernel
theorem dX8_bound_43 : decode cX8_bound 43 = .ok (.iload_n 3, 1) := by decide +kernel
theorem dX8_bound_44 : decode cX8_bound 44 = .ok (.invokevirtual 95, 3) := by decide +kernel
theorem dX8_bound_47 : decode cX8_bound 47 = .ok (.imul, 1) := by decide +kernel
theorem dX8_bound_48 : decode cX8_bound 48 = .ok (.iload_n 2, 1) := by decide +kernel
theorem dX8_bound_49 : decode cX8_bound 49 = .ok (.iadd, 1) := by decide +kernel
theorem dX8_bound_50 : decode cX8_bound 50 = .ok (.if_icmp .ne 5, 3) := by decide +kernel
theorem dX8_bound_53 : decode cX8_bound 53 = .ok (.iload_n 3, 1) := by decide +kernel
theorem dX8_bound_54 : decode cX8_bound 54 = .ok (.ireturn, 1) := by decide +kernel
theorem dX8_bound_55 : decode cX8_bound 55 = .ok (.iload_n 2, 1) := by decide +kernel
theorem dX8_bound_56 : decode cX8_bound 56 = .ok (.aload_n 0, 1) := by decide +kernel
theorem dX8_bound_57 : decode cX8_bound 57 = .ok (.iload_n 3, 1) := by decide +kernel
theorem dX8_bound_58 : decode cX8_bound 58 = .ok (.invokevirtual 92, 3) := by decide +kernel
theorem dX8_bound_61 : decode cX8_bound 61 = .ok (.iadd, 1) := by decide +kernel
theorem dX8_bound_62 : decode cX8_bound 62 = .ok (.istore_n 2, 1) := by decide +kernel
theorem dX8_bound_63 : decode cX8_bound 63 = .ok (.iinc 3 1, 3) := by decide +kernel
theorem dX8_bound_66 : decode cX8_bound 66 = .ok (.goto (-45), 3) := by decide +kernel
theorem dX8_bound_69 : decode cX8_bound 69 = .ok (.aload_n 0, 1) := by decide +kernel
theorem dX8_bound_70 : decode cX8_bound 70 = .ok (.getfield 7, 3) := by decide +kernel
theorem dX8_bound_73 : decode cX8_bound 73 = .ok (.iconst 0, 1) := by decide +kernel
theorem dX8_bound_74 : decode cX8_bound 74 = .ok (.iaload, 1) := by decide +kernel
theorem dX8_bound_75 : decode cX8_bound 75 = .ok (.ireturn, 1) := by decide +kernel
theorem dX8_standing_0 : decode cX8_standing 0 = .ok (.iload_n 2, 1) := by decide +kernel
theorem dX8_standing_1 : decode cX8_standing 1 = .ok (.iload_n 2, 1) := by decide +kernel
theorem dX8_standing_2 : decode cX8_standing 2 = .ok (.imul, 1) := by decide +kernel
theorem dX8_standing_3 : decode cX8_standing 3 = .ok (.istore_n 3, 1) := by decide +kernel
theorem dX8_standing_4 : decode cX8_standing 4 = .ok (.iload_n 1, 1) := by decide +kernel
theorem dX8_standing_5 : decode cX8_standing 5 = .ok (.istore 4, 2) := by decide +kernel
theorem dX8_standing_7 : decode cX8_standing 7 = .ok (.iload 4, 2) := by decide +kernel
theorem dX8_standing_9 : decode cX8_standing 9 = .ok (.aload_n 0, 1) := by decide +kernel
theorem dX8_standing_10 : decode cX8_standing 10 = .ok (.getfield 7, 3) := by decide +kernel
theorem dX8_standing_13 : decode cX8_standing 13 = .ok (.iconst 0, 1) := by decide +kernel
theorem dX8_standing_14 : decode cX8_standing 14 = .ok (.iaload, 1) := by decide +kernel
theorem dX8_standing_15 : decode cX8_standing 15 = .ok (.if_icmp .ge 27, 3) := by decide +kernel
theorem dX8_standing_18 : decode cX8_standing 18 = .ok (.iload_n 3, 1) := by decide +kernel
theorem dX8_standing_19 : decode cX8_standing 19 = .ok (.aload_n 0, 1) := by decide +kernel
theorem dX8_standing_20 : decode cX8_standing 20 = .ok (.iload 4, 2) := by decide +kernel
theorem dX8_standing_22 : decode cX8_standing 22 = .ok (.invokevirtual 92, 3) := by decide +kernel
theorem dX8_standing_25 : decode cX8_standing 25 = .ok (.isub, 1) := by decide +kernel
theorem dX8_standing_26 : decode cX8_standing 26 = .ok (.istore_n 3, 1) := by decide +kernel
theorem dX8_standing_27 : decode cX8_standing 27 = .ok (.iload_n 3, 1) := by decide +kernel
theorem dX8_standing_28 : decode cX8_standing 28 = .ok (.ifCond .gt 8, 3) := by decide +kernel
theorem dX8_standing_31 : decode cX8_standing 31 = .ok (.iload 4, 2) := by decide +kernel
theorem dX8_standing_33 : decode cX8_standing 33 = .ok (.iload_n 1, 1) := by decide +kernel
theorem dX8_standing_34 : decode cX8_standing 34 = .ok (.isub, 1) := by decide +kernel
theorem dX8_standing_35 : decode cX8_standing 35 = .ok (.ireturn, 1) := by decide +kernel
theorem dX8_standing_36 : decode cX8_standing 36 = .ok (.iinc 4 1, 3) := by decide +kernel
theorem dX8_standing_39 : decode cX8_standing 39 = .ok (.goto (-32), 3) := by decide +kernel
theorem dX8_standing_42 : decode cX8_standing 42 = .ok (.iconst (-1), 1) := by decide +kernel
theorem dX8_standing_43 : decode cX8_standing 43 = .ok (.ireturn, 1) := by decide +kernel
theorem dX8_stands_0 : decode cX8_stands 0 = .ok (.aload_n 0, 1) := by decide +kernel
theorem dX8_stands_1 : decode cX8_stands 1 = .ok (.iload_n 1, 1) := by decide +kernel
theorem dX8_stands_2 : decode cX8_stands 2 = .ok (.invokevirtual 70, 3) := by decide +kernel
theorem dX8_stands_5 : decode cX8_stands 5 = .ok (.ifCond .eq 22, 3) := by decide +kernel
theorem dX8_stands_8 : decode cX8_stands 8 = .ok (.iload_n 2, 1) := by decide +kernel
theorem dX8_stands_9 : decode cX8_stands 9 = .ok (.iconst 0, 1) := by decide +kernel
theorem dX8_stands_10 : decode cX8_stands 10 = .ok (.bipush 99, 2) := by decide +kernel
theorem dX8_stands_12 : decode cX8_stands 12 = .ok (.invokestatic 45, 3) := by decide +kernel
theorem dX8_stands_15 : decode cX8_stands 15 = .ok (.ifCond .eq 12, 3) := by decide +kernel
theorem dX8_stands_18 : decode cX8_stands 18 = .ok (.aload_n 0, 1) := by decide +kernel
theorem dX8_stands_19 : decode cX8_stands 19 = .ok (.iload_n 1, 1) := by decide +kernel
theorem dX8_stands_20 : decode cX8_stands 20 = .ok (.iload_n 2, 1) := by decide +kernel
theorem dX8_stands_21 : decode cX8_stands 21 = .ok (.invokevirtual 107, 3) := by decide +kernel
theorem dX8_stands_24 : decode cX8_stands 24 = .ok (.goto 7, 3) := by decide +kernel
theorem dX8_stands_27 : decode cX8_stands 27 = .ok (.aload_n 0, 1) := by decide +kernel
theorem dX8_stands_28 : decode cX8_stands 28 = .ok (.invokevirtual 60, 3) := by decide +kernel
theorem dX8_stands_31 : decode cX8_stands 31 = .ok (.ireturn, 1) := by decide +kernel
theorem dX8_speed_0 : decode cX8_speed 0 = .ok (.aload_n 0, 1) := by decide +kernel
theorem dX8_speed_1 : decode cX8_speed 1 = .ok (.iload_n 1, 1) := by decide +kernel
theorem dX8_speed_2 : decode cX8_speed 2 = .ok (.invokevirtual 70, 3) := by decide +kernel
theorem dX8_speed_5 : decode cX8_speed 5 = .ok (.ifCond .eq 14, 3) := by decide +kernel
theorem dX8_speed_8 : decode cX8_speed 8 = .ok (.iload_n 2, 1) := by decide +kernel
theorem dX8_speed_9 : decode cX8_speed 9 = .ok (.iconst 0, 1) := by decide +kernel
theorem dX8_speed_10 : decode cX8_speed 10 = .ok (.sipush 200, 3) := by decide +kernel
theorem dX8_speed_13 : decode cX8_speed 13 = .ok (.invokestatic 45, 3) := by decide +kernel
theorem dX8_speed_16 : decode cX8_speed 16 = .ok (.ifCond .ne 8, 3) := by decide +kernel
theorem dX8_speed_19 : decode cX8_speed 19 = .ok (.aload_n 0, 1) := by decide +kernel
theorem dX8_speed_20 : decode cX8_speed 20 = .ok (.invokevirtual 60, 3) := by decide +kernel
theorem dX8_speed_23 : decode cX8_speed 23 = .ok (.ireturn, 1) := by decide +kernel
theorem dX8_speed_24 : decode cX8_speed 24 = .ok (.bipush 99, 2) := by decide +kernel
theorem dX8_speed_26 : decode cX8_speed 26 = .ok (.istore_n 3, 1) := by decide +kernel
theorem dX8_speed_27 : decode cX8_speed 27 = .ok (.iload_n 3, 1) := by decide +kernel
theorem dX8_speed_28 : decode cX8_speed 28 = .ok (.ifCond .le 25, 3) := by decide +kernel
theorem dX8_speed_31 : decode cX8_speed 31 = .ok (.aload_n 0, 1) := by decide +kernel
theorem dX8_speed_32 : decode cX8_speed 32 = .ok (.iload_n 1, 1) := by decide +kernel
theorem dX8_speed_33 : decode cX8_speed 33 = .ok (.iload_n 3, 1) := by decide +kernel
theorem dX8_speed_34 : decode cX8_speed 34 = .ok (.invokevirtual 107, 3) := by decide +kernel
theorem dX8_speed_37 : decode cX8_speed 37 = .ok (.iconst 0, 1) := by decide +kernel
theorem dX8_speed_38 : decode cX8_speed 38 = .ok (.iload_n 2, 1) := by decide +kernel
theorem dX8_speed_39 : decode cX8_speed 39 = .ok (.invokestatic 45, 3) := by decide +kernel
theorem dX8_speed_42 : decode cX8_speed 42 = .ok (.ifCond .eq 5, 3) := by decide +kernel
theorem dX8_speed_45 : decode cX8_speed 45 = .ok (.iload_n 3, 1) := by decide +kernel
theorem dX8_speed_46 : decode cX8_speed 46 = .ok (.ireturn, 1) := by decide +kernel
theorem dX8_speed_47 : decode cX8_speed 47 = .ok (.iinc 3 (-1), 3) := by decide +kernel
theorem dX8_speed_50 : decode cX8_speed 50 = .ok (.goto (-23), 3) := by decide +kernel
theorem dX8_speed_53 : decode cX8_speed 53 = .ok (.iconst 0, 1) := by decide +kernel
theorem dX8_speed_54 : decode cX8_speed 54 = .ok (.ireturn, 1) := by decide +kernel
theorem dX8_many_0 : decode cX8_many 0 = .ok (.iload_n 1, 1) := by decide +kernel
theorem dX8_many_1 : decode cX8_many 1 = .ok (.iconst 0, 1) := by decide +kernel
theorem dX8_many_2 : decode cX8_many 2 = .ok (.bipush 99, 2) := by decide +kernel
theorem dX8_many_4 : decode cX8_many 4 = .ok (.invokestatic 45, 3) := by decide +kernel
theorem dX8_many_7 : decode cX8_many 7 = .ok (.ifCond .ne 8, 3) := by decide +kernel
theorem dX8_many_10 : decode cX8_many 10 = .ok (.aload_n 0, 1) := by decide +kernel
theorem dX8_many_11 : decode cX8_many 11 = .ok (.invokevirtual 60, 3) := by decide +kernel
theorem dX8_many_14 : decode cX8_many 14 = .ok (.ireturn, 1) := by decide +kernel
theorem dX8_many_15 : decode cX8_many 15 = .ok (.aload_n 0, 1) := by decide +kernel
theorem dX8_many_16 : decode cX8_many 16 = .ok (.invokevirtual 101, 3) := by decide +kernel
theorem dX8_many_19 : decode cX8_many 19 = .ok (.iconst 0, 1) := by decide +kernel
theorem dX8_many_20 : decode cX8_many 20 = .ok (.istore_n 2, 1) := by decide +kernel
theorem dX8_many_21 : decode cX8_many 21 = .ok (.iconst 0, 1) := by decide +kernel
theorem dX8_many_22 : decode cX8_many 22 = .ok (.istore_n 3, 1) := by decide +kernel
theorem dX8_many_23 : decode cX8_many 23 = .ok (.iload_n 3, 1) := by decide +kernel
theorem dX8_many_24 : decode cX8_many 24 = .ok (.aload_n 0, 1) := by decide +kernel
theorem dX8_many_25 : decode cX8_many 25 = .ok (.getfield 7, 3) := by decide +kernel
theorem dX8_many_28 : decode cX8_many 28 = .ok (.iconst 0, 1) := by decide +kernel
theorem dX8_many_29 : decode cX8_many 29 = .ok (.iaload, 1) := by decide +kernel
theorem dX8_many_30 : decode cX8_many 30 = .ok (.if_icmp .ge 30, 3) := by decide +kernel
theorem dX8_many_33 : decode cX8_many 33 = .ok (.iload_n 2, 1) := by decide +kernel
theorem dX8_many_34 : decode cX8_many 34 = .ok (.aload_n 0, 1) := by decide +kernel
theorem dX8_many_35 : decode cX8_many 35 = .ok (.getfield 20, 3) := by decide +kernel
theorem dX8_many_38 : decode cX8_many 38 = .ok (.iload_n 3, 1) := by decide +kernel
theorem dX8_many_39 : decode cX8_many 39 = .ok (.iaload, 1) := by decide +kernel
theorem dX8_many_40 : decode cX8_many 40 = .ok (.invokestatic 104, 3) := by decide +kernel
theorem dX8_many_43 : decode cX8_many 43 = .ok (.iload_n 1, 1) := by decide +kernel
theorem dX8_many_44 : decode cX8_many 44 = .ok (.if_icmp .ne 7, 3) := by decide +kernel
theorem dX8_many_47 : decode cX8_many 47 = .ok (.iconst 1, 1) := by decide +kernel
theorem dX8_many_48 : decode cX8_many 48 = .ok (.goto 4, 3) := by decide +kernel
theorem dX8_many_51 : decode cX8_many 51 = .ok (.iconst 0, 1) := by decide +kernel
theorem dX8_many_52 : decode cX8_many 52 = .ok (.iadd, 1) := by decide +kernel
theorem dX8_many_53 : decode cX8_many 53 = .ok (.istore_n 2, 1) := by decide +kernel
theorem dX8_many_54 : decode cX8_many 54 = .ok (.iinc 3 1, 3) := by decide +kernel
theorem dX8_many_57 : decode cX8_many 57 = .ok (.goto (-34), 3) := by decide +kernel
theorem dX8_many_60 : decode cX8_many 60 = .ok (.iload_n 2, 1) := by decide +kernel
theorem dX8_many_61 : decode cX8_many 61 = .ok (.ireturn, 1) := by decide +kernel
theorem dX8_cellAt_0 : decode cX8_cellAt 0 = .ok (.iload_n 1, 1) := by decide +kernel
theorem dX8_cellAt_1 : decode cX8_cellAt 1 = .ok (.ifCond .ge 7, 3) := by decide +kernel
theorem dX8_cellAt_4 : decode cX8_cellAt 4 = .ok (.iconst 0, 1) := by decide +kernel
theorem dX8_cellAt_5 : decode cX8_cellAt 5 = .ok (.goto 25, 3) := by decide +kernel
theorem dX8_cellAt_8 : decode cX8_cellAt 8 = .ok (.iload_n 1, 1) := by decide +kernel
theorem dX8_cellAt_9 : decode cX8_cellAt 9 = .ok (.aload_n 0, 1) := by decide +kernel
theorem dX8_cellAt_10 : decode cX8_cellAt 10 = .ok (.getfield 7, 3) := by decide +kernel
theorem dX8_cellAt_13 : decode cX8_cellAt 13 = .ok (.iconst 0, 1) := by decide +kernel
theorem dX8_cellAt_14 : decode cX8_cellAt 14 = .ok (.iaload, 1) := by decide +kernel
theorem dX8_cellAt_15 : decode cX8_cellAt 15 = .ok (.if_icmp .lt 14, 3) := by decide +kernel
theorem dX8_cellAt_18 : decode cX8_cellAt 18 = .ok (.aload_n 0, 1) := by decide +kernel
theorem dX8_cellAt_19 : decode cX8_cellAt 19 = .ok (.getfield 7, 3) := by decide +kernel
theorem dX8_cellAt_22 : decode cX8_cellAt 22 = .ok (.iconst 0, 1) := by decide +kernel
theorem dX8_cellAt_23 : decode cX8_cellAt 23 = .ok (.iaload, 1) := by decide +kernel
theorem dX8_cellAt_24 : decode cX8_cellAt 24 = .ok (.iconst 1, 1) := by decide +kernel
theorem dX8_cellAt_25 : decode cX8_cellAt 25 = .ok (.isub, 1) := by decide +kernel
theorem dX8_cellAt_26 : decode cX8_cellAt 26 = .ok (.goto 4, 3) := by decide +kernel
theorem dX8_cellAt_29 : decode cX8_cellAt 29 = .ok (.iload_n 1, 1) := by decide +kernel
theorem dX8_cellAt_30 : decode cX8_cellAt 30 = .ok (.ireturn, 1) := by decide +kernel
theorem dX8_first_0 : decode cX8_first 0 = .ok (.aload_n 0, 1) := by decide +kernel
theorem dX8_first_1 : decode cX8_first 1 = .ok (.aload_n 0, 1) := by decide +kernel
theorem dX8_first_2 : decode cX8_first 2 = .ok (.getfield 7, 3) := by decide +kernel
theorem dX8_first_5 : decode cX8_first 5 = .ok (.bipush 11, 2) := by decide +kernel
theorem dX8_first_7 : decode cX8_first 7 = .ok (.iaload, 1) := by decide +kernel
theorem dX8_first_8 : decode cX8_first 8 = .ok (.sipush 1000, 3) := by decide +kernel
theorem dX8_first_11 : decode cX8_first 11 = .ok (.idiv, 1) := by decide +kernel
theorem dX8_first_12 : decode cX8_first 12 = .ok (.invokevirtual 110, 3) := by decide +kernel
theorem dX8_first_15 : decode cX8_first 15 = .ok (.ireturn, 1) := by decide +kernel
theorem dX8_last_0 : decode cX8_last 0 = .ok (.aload_n 0, 1) := by decide +kernel
theorem dX8_last_1 : decode cX8_last 1 = .ok (.aload_n 0, 1) := by decide +kernel
theorem dX8_last_2 : decode cX8_last 2 = .ok (.getfield 7, 3) := by decide +kernel
theorem dX8_last_5 : decode cX8_last 5 = .ok (.bipush 12, 2) := by decide +kernel
theorem dX8_last_7 : decode cX8_last 7 = .ok (.iaload, 1) := by decide +kernel
theorem dX8_last_8 : decode cX8_last 8 = .ok (.sipush 999, 3) := by decide +kernel
theorem dX8_last_11 : decode cX8_last 11 = .ok (.iadd, 1) := by decide +kernel
theorem dX8_last_12 : decode cX8_last 12 = .ok (.sipush 1000, 3) := by decide +kernel
theorem dX8_last_15 : decode cX8_last 15 = .ok (.idiv, 1) := by decide +kernel
theorem dX8_last_16 : decode cX8_last 16 = .ok (.invokevirtual 110, 3) := by decide +kernel
theorem dX8_last_19 : decode cX8_last 19 = .ok (.ireturn, 1) := by decide +kernel
theorem dX8_leastOf_0 : decode cX8_leastOf 0 = .ok (.aload_n 0, 1) := by decide +kernel
theorem dX8_leastOf_1 : decode cX8_leastOf 1 = .ok (.invokevirtual 101, 3) := by decide +kernel
theorem dX8_leastOf_4 : decode cX8_leastOf 4 = .ok (.aload_n 0, 1) := by decide +kernel
theorem dX8_leastOf_5 : decode cX8_leastOf 5 = .ok (.getfield 20, 3) := by decide +kernel
theorem dX8_leastOf_8 : decode cX8_leastOf 8 = .ok (.iload_n 1, 1) := by decide +kernel
theorem dX8_leastOf_9 : decode cX8_leastOf 9 = .ok (.iaload, 1) := by decide +kernel
theorem dX8_leastOf_10 : decode cX8_leastOf 10 = .ok (.istore_n 3, 1) := by decide +kernel
theorem dX8_leastOf_11 : decode cX8_leastOf 11 = .ok (.iload_n 1, 1) := by decide +kernel
theorem dX8_leastOf_12 : decode cX8_leastOf 12 = .ok (.istore 4, 2) := by decide +kernel
theorem dX8_leastOf_14 : decode cX8_leastOf 14 = .ok (.iload 4, 2) := by decide +kernel
theorem dX8_leastOf_16 : decode cX8_leastOf 16 = .ok (.iload_n 2, 1) := by decide +kernel
theorem dX8_leastOf_17 : decode cX8_leastOf 17 = .ok (.if_icmp .gt 32, 3) := by decide +kernel
theorem dX8_leastOf_20 : decode cX8_leastOf 20 = .ok (.aload_n 0, 1) := by decide +kernel
theorem dX8_leastOf_21 : decode cX8_leastOf 21 = .ok (.getfield 20, 3) := by decide +kernel
theorem dX8_leastOf_24 : decode cX8_leastOf 24 = .ok (.iload 4, 2) := by decide +kernel
theorem dX8_leastOf_26 : decode cX8_leastOf 26 = .ok (.iaload, 1) := by decide +kernel
theorem dX8_leastOf_27 : decode cX8_leastOf 27 = .ok (.iload_n 3, 1) := by decide +kernel
theorem dX8_leastOf_28 : decode cX8_leastOf 28 = .ok (.if_icmp .ge 13, 3) := by decide +kernel
theorem dX8_leastOf_31 : decode cX8_leastOf 31 = .ok (.aload_n 0, 1) := by decide +kernel
theorem dX8_leastOf_32 : decode cX8_leastOf 32 = .ok (.getfield 20, 3) := by decide +kernel
theorem dX8_leastOf_35 : decode cX8_leastOf 35 = .ok (.iload 4, 2) := by decide +kernel
theorem dX8_leastOf_37 : decode cX8_leastOf 37 = .ok (.iaload, 1) := by decide +kernel
theorem dX8_leastOf_38 : decode cX8_leastOf 38 = .ok (.goto 4, 3) := by decide +kernel
theorem dX8_leastOf_41 : decode cX8_leastOf 41 = .ok (.iload_n 3, 1) := by decide +kernel
theorem dX8_leastOf_42 : decode cX8_leastOf 42 = .ok (.istore_n 3, 1) := by decide +kernel
theorem dX8_leastOf_43 : decode cX8_leastOf 43 = .ok (.iinc 4 1, 3) := by decide +kernel
theorem dX8_leastOf_46 : decode cX8_leastOf 46 = .ok (.goto (-32), 3) := by decide +kernel
theorem dX8_leastOf_49 : decode cX8_leastOf 49 = .ok (.iload_n 3, 1) := by decide +kernel
theorem dX8_leastOf_50 : decode cX8_leastOf 50 = .ok (.ireturn, 1) := by decide +kernel
theorem dX8_sees_0 : decode cX8_sees 0 = .ok (.aload_n 0, 1) := by decide +kernel
theorem dX8_sees_1 : decode cX8_sees 1 = .ok (.aload_n 0, 1) := by decide +kernel
theorem dX8_sees_2 : decode cX8_sees 2 = .ok (.invokevirtual 113, 3) := by decide +kernel
theorem dX8_sees_5 : decode cX8_sees 5 = .ok (.aload_n 0, 1) := by decide +kernel
theorem dX8_sees_6 : decode cX8_sees 6 = .ok (.invokevirtual 116, 3) := by decide +kernel
theorem dX8_sees_9 : decode cX8_sees 9 = .ok (.invokevirtual 119, 3) := by decide +kernel
theorem dX8_sees_12 : decode cX8_sees 12 = .ok (.invokestatic 104, 3) := by decide +kernel
theorem dX8_sees_15 : decode cX8_sees 15 = .ok (.ireturn, 1) := by decide +kernel
theorem dX8_supervises_0 : decode cX8_supervises 0 = .ok (.aload_n 0, 1) := by decide +kernel
theorem dX8_supervises_1 : decode cX8_supervises 1 = .ok (.getfield 7, 3) := by decide +kernel
theorem dX8_supervises_4 : decode cX8_supervises 4 = .ok (.bipush 10, 2) := by decide +kernel
theorem dX8_supervises_6 : decode cX8_supervises 6 = .ok (.iaload, 1) := by decide +kernel
theorem dX8_supervises_7 : decode cX8_supervises 7 = .ok (.iconst 3, 1) := by decide +kernel
theorem dX8_supervises_8 : decode cX8_supervises 8 = .ok (.if_icmp .ne 4, 3) := by decide +kernel
theorem dX8_supervises_11 : decode cX8_supervises 11 = .ok (.return_, 1) := by decide +kernel
theorem dX8_supervises_12 : decode cX8_supervises 12 = .ok (.aload_n 0, 1) := by decide +kernel
theorem dX8_supervises_13 : decode cX8_supervises 13 = .ok (.getfield 7, 3) := by decide +kernel
theorem dX8_supervises_16 : decode cX8_supervises 16 = .ok (.bipush 9, 2) := by decide +kernel
theorem dX8_supervises_18 : decode cX8_supervises 18 = .ok (.iaload, 1) := by decide +kernel
theorem dX8_supervises_19 : decode cX8_supervises 19 = .ok (.invokestatic 104, 3) := by decide +kernel
theorem dX8_supervises_22 : decode cX8_supervises 22 = .ok (.aload_n 0, 1) := by decide +kernel
theorem dX8_supervises_23 : decode cX8_supervises 23 = .ok (.invokevirtual 122, 3) := by decide +kernel
theorem dX8_supervises_26 : decode cX8_supervises 26 = .ok (.isub, 1) := by decide +kernel
theorem dX8_supervises_27 : decode cX8_supervises 27 = .ok (.istore_n 1, 1) := by decide +kernel
theorem dX8_supervises_28 : decode cX8_supervises 28 = .ok (.iload_n 1, 1) := by decide +kernel
theorem dX8_supervises_29 : decode cX8_supervises 29 = .ok (.aload_n 0, 1) := by decide +kernel
theorem dX8_supervises_30 : decode cX8_supervises 30 = .ok (.getfield 7, 3) := by decide +kernel
theorem dX8_supervises_33 : decode cX8_supervises 33 = .ok (.bipush 7, 2) := by decide +kernel
theorem dX8_supervises_35 : decode cX8_supervises 35 = .ok (.iaload, 1) := by decide +kernel
theorem dX8_supervises_36 : decode cX8_supervises 36 = .ok (.if_icmp .le 25, 3) := by decide +kernel
theorem dX8_supervises_39 : decode cX8_supervises 39 = .ok (.aload_n 0, 1) := by decide +kernel
theorem dX8_supervises_40 : decode cX8_supervises 40 = .ok (.getfield 7, 3) := by decide +kernel
theorem dX8_supervises_43 : decode cX8_supervises 43 = .ok (.bipush 10, 2) := by decide +kernel
theorem dX8_supervises_45 : decode cX8_supervises 45 = .ok (.iconst 3, 1) := by decide +kernel
theorem dX8_supervises_46 : decode cX8_supervises 46 = .ok (.iastore, 1) := by decide +kernel
theorem dX8_supervises_47 : decode cX8_supervises 47 = .ok (.aload_n 0, 1) := by decide +kernel
theorem dX8_supervises_48 : decode cX8_supervises 48 = .ok (.getfield 7, 3) := by decide +kernel
theorem dX8_supervises_51 : decode cX8_supervises 51 = .ok (.bipush 13, 2) := by decide +kernel
theorem dX8_supervises_53 : decode cX8_supervises 53 = .ok (.dup2, 1) := by decide +kernel
theorem dX8_supervises_54 : decode cX8_supervises 54 = .ok (.iaload, 1) := by decide +kernel
theorem dX8_supervises_55 : decode cX8_supervises 55 = .ok (.iconst 1, 1) := by decide +kernel
theorem dX8_supervises_56 : decode cX8_supervises 56 = .ok (.iadd, 1) := by decide +kernel
theorem dX8_supervises_57 : decode cX8_supervises 57 = .ok (.iastore, 1) := by decide +kernel
theorem dX8_supervises_58 : decode cX8_supervises 58 = .ok (.goto 69, 3) := by decide +kernel
theorem dX8_supervises_61 : decode cX8_supervises 61 = .ok (.iload_n 1, 1) := by decide +kernel
theorem dX8_supervises_62 : decode cX8_supervises 62 = .ok (.aload_n 0, 1) := by decide +kernel
theorem dX8_supervises_63 : decode cX8_supervises 63 = .ok (.getfield 7, 3) := by decide +kernel
theorem dX8_supervises_66 : decode cX8_supervises 66 = .ok (.bipush 6, 2) := by decide +kernel
theorem dX8_supervises_68 : decode cX8_supervises 68 = .ok (.iaload, 1) := by decide +kernel
theorem dX8_supervises_69 : decode cX8_supervises 69 = .ok (.if_icmp .le 14, 3) := by decide +kernel
theorem dX8_supervises_72 : decode cX8_supervises 72 = .ok (.aload_n 0, 1) := by decide +kernel
theorem dX8_supervises_73 : decode cX8_supervises 73 = .ok (.getfield 7, 3) := by decide +kernel
theorem dX8_supervises_76 : decode cX8_supervises 76 = .ok (.bipush 10, 2) := by decide +kernel
theorem dX8_supervises_78 : decode cX8_supervises 78 = .ok (.iconst 2, 1) := by decide +kernel
theorem dX8_supervises_79 : decode cX8_supervises 79 = .ok (.iastore, 1) := by decide +kernel
theorem dX8_supervises_80 : decode cX8_supervises 80 = .ok (.goto 47, 3) := by decide +kernel
theorem dX8_supervises_83 : decode cX8_supervises 83 = .ok (.iload_n 1, 1) := by decide +kernel
theorem dX8_supervises_84 : decode cX8_supervises 84 = .ok (.aload_n 0, 1) := by decide +kernel
theorem dX8_supervises_85 : decode cX8_supervises 85 = .ok (.getfield 7, 3) := by decide +kernel
theorem dX8_supervises_88 : decode cX8_supervises 88 = .ok (.iconst 5, 1) := by decide +kernel
theorem dX8_supervises_89 : decode cX8_supervises 89 = .ok (.iaload, 1) := by decide +kernel
theorem dX8_supervises_90 : decode cX8_supervises 90 = .ok (.if_icmp .le 29, 3) := by decide +kernel
theorem dX8_supervises_93 : decode cX8_supervises 93 = .ok (.aload_n 0, 1) := by decide +kernel
theorem dX8_supervises_94 : decode cX8_supervises 94 = .ok (.getfield 7, 3) := by decide +kernel
theorem dX8_supervises_97 : decode cX8_supervises 97 = .ok (.bipush 10, 2) := by decide +kernel
theorem dX8_supervises_99 : decode cX8_supervises 99 = .ok (.aload_n 0, 1) := by decide +kernel
theorem dX8_supervises_100 : decode cX8_supervises 100 = .ok (.getfield 7, 3) := by decide +kernel
theorem dX8_supervises_103 : decode cX8_supervises 103 = .ok (.bipush 10, 2) := by decide +kernel
theorem dX8_supervises_105 : decode cX8_supervises 105 = .ok (.iaload, 1) := by decide +kernel
theorem dX8_supervises_106 : decode cX8_supervises 106 = .ok (.iconst 2, 1) := by decide +kernel
theorem dX8_supervises_107 : decode cX8_supervises 107 = .ok (.if_icmp .ne 7, 3) := by decide +kernel
theorem dX8_supervises_110 : decode cX8_supervises 110 = .ok (.iconst 2, 1) := by decide +kernel
theorem dX8_supervises_111 : decode cX8_supervises 111 = .ok (.goto 4, 3) := by decide +kernel
theorem dX8_supervises_114 : decode cX8_supervises 114 = .ok (.iconst 1, 1) := by decide +kernel
theorem dX8_supervises_115 : decode cX8_supervises 115 = .ok (.iastore, 1) := by decide +kernel
theorem dX8_supervises_116 : decode cX8_supervises 116 = .ok (.goto 11, 3) := by decide +kernel
theorem dX8_supervises_119 : decode cX8_supervises 119 = .ok (.aload_n 0, 1) := by decide +kernel
theorem dX8_supervises_120 : decode cX8_supervises 120 = .ok (.getfield 7, 3) := by decide +kernel
theorem dX8_supervises_123 : decode cX8_supervises 123 = .ok (.bipush 10, 2) := by decide +kernel
theorem dX8_supervises_125 : decode cX8_supervises 125 = .ok (.iconst 0, 1) := by decide +kernel
theorem dX8_supervises_126 : decode cX8_supervises 126 = .ok (.iastore, 1) := by decide +kernel
theorem dX8_supervises_127 : decode cX8_supervises 127 = .ok (.return_, 1) := by decide +kernel
theorem dX8_gainOf_0 : decode cX8_gainOf 0 = .ok (.aload_n 0, 1) := by decide +kernel
theorem dX8_gainOf_1 : decode cX8_gainOf 1 = .ok (.getfield 7, 3) := by decide +kernel
theorem dX8_gainOf_4 : decode cX8_gainOf 4 = .ok (.bipush 8, 2) := by decide +kernel
theorem dX8_gainOf_6 : decode cX8_gainOf 6 = .ok (.iaload, 1) := by decide +kernel
theorem dX8_gainOf_7 : decode cX8_gainOf 7 = .ok (.istore_n 3, 1) := by decide +kernel
theorem dX8_gainOf_8 : decode cX8_gainOf 8 = .ok (.iload_n 1, 1) := by decide +kernel
theorem dX8_gainOf_9 : decode cX8_gainOf 9 = .ok (.iconst 3, 1) := by decide +kernel
theorem dX8_gainOf_10 : decode cX8_gainOf 10 = .ok (.if_icmp .ne 10, 3) := by decide +kernel
theorem dX8_gainOf_13 : decode cX8_gainOf 13 = .ok (.aload_n 0, 1) := by decide +kernel
theorem dX8_gainOf_14 : decode cX8_gainOf 14 = .ok (.iload_n 3, 1) := by decide +kernel
theorem dX8_gainOf_15 : decode cX8_gainOf 15 = .ok (.invokevirtual 92, 3) := by decide +kernel
theorem dX8_gainOf_18 : decode cX8_gainOf 18 = .ok (.ineg, 1) := by decide +kernel
theorem dX8_gainOf_19 : decode cX8_gainOf 19 = .ok (.ireturn, 1) := by decide +kernel
theorem dX8_gainOf_20 : decode cX8_gainOf 20 = .ok (.iload_n 1, 1) := by decide +kernel
theorem dX8_gainOf_21 : decode cX8_gainOf 21 = .ok (.iconst 2, 1) := by decide +kernel
theorem dX8_gainOf_22 : decode cX8_gainOf 22 = .ok (.if_icmp .ne 21, 3) := by decide +kernel
theorem dX8_gainOf_25 : decode cX8_gainOf 25 = .ok (.iconst 3, 1) := by decide +kernel
theorem dX8_gainOf_26 : decode cX8_gainOf 26 = .ok (.aload_n 0, 1) := by decide +kernel
theorem dX8_gainOf_27 : decode cX8_gainOf 27 = .ok (.getfield 7, 3) := by decide +kernel
theorem dX8_gainOf_30 : decode cX8_gainOf 30 = .ok (.iconst 1, 1) := by decide +kernel
theorem dX8_gainOf_31 : decode cX8_gainOf 31 = .ok (.iaload, 1) := by decide +kernel
theorem dX8_gainOf_32 : decode cX8_gainOf 32 = .ok (.imul, 1) := by decide +kernel
theorem dX8_gainOf_33 : decode cX8_gainOf 33 = .ok (.iconst 4, 1) := by decide +kernel
theorem dX8_gainOf_34 : decode cX8_gainOf 34 = .ok (.idiv, 1) := by decide +kernel
theorem dX8_gainOf_35 : decode cX8_gainOf 35 = .ok (.ineg, 1) := by decide +kernel
theorem dX8_gainOf_36 : decode cX8_gainOf 36 = .ok (.aload_n 0, 1) := by decide +kernel
theorem dX8_gainOf_37 : decode cX8_gainOf 37 = .ok (.iload_n 3, 1) := by decide +kernel
theorem dX8_gainOf_38 : decode cX8_gainOf 38 = .ok (.invokevirtual 49, 3) := by decide +kernel
theorem dX8_gainOf_41 : decode cX8_gainOf 41 = .ok (.isub, 1) := by decide +kernel
theorem dX8_gainOf_42 : decode cX8_gainOf 42 = .ok (.ireturn, 1) := by decide +kernel
theorem dX8_gainOf_43 : decode cX8_gainOf 43 = .ok (.iload_n 2, 1) := by decide +kernel
theorem dX8_gainOf_44 : decode cX8_gainOf 44 = .ok (.ifCond .ge 15, 3) := by decide +kernel
theorem dX8_gainOf_47 : decode cX8_gainOf 47 = .ok (.aload_n 0, 1) := by decide +kernel
theorem dX8_gainOf_48 : decode cX8_gainOf 48 = .ok (.getfield 7, 3) := by decide +kernel
theorem dX8_gainOf_51 : decode cX8_gainOf 51 = .ok (.iconst 1, 1) := by decide +kernel
theorem dX8_gainOf_52 : decode cX8_gainOf 52 = .ok (.iaload, 1) := by decide +kernel
theorem dX8_gainOf_53 : decode cX8_gainOf 53 = .ok (.iconst 2, 1) := by decide +kernel
theorem dX8_gainOf_54 : decode cX8_gainOf 54 = .ok (.idiv, 1) := by decide +kernel
theorem dX8_gainOf_55 : decode cX8_gainOf 55 = .ok (.ineg, 1) := by decide +kernel
theorem dX8_gainOf_56 : decode cX8_gainOf 56 = .ok (.goto 17, 3) := by decide +kernel
theorem dX8_gainOf_59 : decode cX8_gainOf 59 = .ok (.iload_n 2, 1) := by decide +kernel
theorem dX8_gainOf_60 : decode cX8_gainOf 60 = .ok (.ifCond .le 12, 3) := by decide +kernel
theorem dX8_gainOf_63 : decode cX8_gainOf 63 = .ok (.aload_n 0, 1) := by decide +kernel
theorem dX8_gainOf_64 : decode cX8_gainOf 64 = .ok (.getfield 7, 3) := by decide +kernel
theorem dX8_gainOf_67 : decode cX8_gainOf 67 = .ok (.iconst 2, 1) := by decide +kernel
theorem dX8_gainOf_68 : decode cX8_gainOf 68 = .ok (.iaload, 1) := by decide +kernel
theorem dX8_gainOf_69 : decode cX8_gainOf 69 = .ok (.goto 4, 3) := by decide +kernel
theorem dX8_gainOf_72 : decode cX8_gainOf 72 = .ok (.iconst 0, 1) := by decide +kernel
theorem dX8_gainOf_73 : decode cX8_gainOf 73 = .ok (.istore 4, 2) := by decide +kernel
theorem dX8_gainOf_75 : decode cX8_gainOf 75 = .ok (.iload 4, 2) := by decide +kernel
theorem dX8_gainOf_77 : decode cX8_gainOf 77 = .ok (.aload_n 0, 1) := by decide +kernel
theorem dX8_gainOf_78 : decode cX8_gainOf 78 = .ok (.iload_n 3, 1) := by decide +kernel
theorem dX8_gainOf_79 : decode cX8_gainOf 79 = .ok (.invokevirtual 49, 3) := by decide +kernel
theorem dX8_gainOf_82 : decode cX8_gainOf 82 = .ok (.isub, 1) := by decide +kernel
theorem dX8_gainOf_83 : decode cX8_gainOf 83 = .ok (.ireturn, 1) := by decide +kernel
theorem dX8_goesOn_0 : decode cX8_goesOn 0 = .ok (.aload_n 0, 1) := by decide +kernel
theorem dX8_goesOn_1 : decode cX8_goesOn 1 = .ok (.getfield 7, 3) := by decide +kernel
theorem dX8_goesOn_4 : decode cX8_goesOn 4 = .ok (.bipush 9, 2) := by decide +kernel
theorem dX8_goesOn_6 : decode cX8_goesOn 6 = .ok (.iaload, 1) := by decide +kernel
theorem dX8_goesOn_7 : decode cX8_goesOn 7 = .ok (.aload_n 0, 1) := by decide +kernel
theorem dX8_goesOn_8 : decode cX8_goesOn 8 = .ok (.aload_n 0, 1) := by decide +kernel
theorem dX8_goesOn_9 : decode cX8_goesOn 9 = .ok (.getfield 7, 3) := by decide +kernel
theorem dX8_goesOn_12 : decode cX8_goesOn 12 = .ok (.bipush 10, 2) := by decide +kernel
theorem dX8_goesOn_14 : decode cX8_goesOn 14 = .ok (.iaload, 1) := by decide +kernel
theorem dX8_goesOn_15 : decode cX8_goesOn 15 = .ok (.iload_n 1, 1) := by decide +kernel
theorem dX8_goesOn_16 : decode cX8_goesOn 16 = .ok (.invokevirtual 125, 3) := by decide +kernel
theorem dX8_goesOn_19 : decode cX8_goesOn 19 = .ok (.iadd, 1) := by decide +kernel
theorem dX8_goesOn_20 : decode cX8_goesOn 20 = .ok (.istore_n 2, 1) := by decide +kernel
theorem dX8_goesOn_21 : decode cX8_goesOn 21 = .ok (.iload_n 2, 1) := by decide +kernel
theorem dX8_goesOn_22 : decode cX8_goesOn 22 = .ok (.ifCond .le 25, 3) := by decide +kernel
theorem dX8_goesOn_25 : decode cX8_goesOn 25 = .ok (.aload_n 0, 1) := by decide +kernel
theorem dX8_goesOn_26 : decode cX8_goesOn 26 = .ok (.getfield 7, 3) := by decide +kernel
theorem dX8_goesOn_29 : decode cX8_goesOn 29 = .ok (.bipush 8, 2) := by decide +kernel
theorem dX8_goesOn_31 : decode cX8_goesOn 31 = .ok (.iaload, 1) := by decide +kernel
theorem dX8_goesOn_32 : decode cX8_goesOn 32 = .ok (.aload_n 0, 1) := by decide +kernel
theorem dX8_goesOn_33 : decode cX8_goesOn 33 = .ok (.getfield 7, 3) := by decide +kernel
theorem dX8_goesOn_36 : decode cX8_goesOn 36 = .ok (.iconst 0, 1) := by decide +kernel
theorem dX8_goesOn_37 : decode cX8_goesOn 37 = .ok (.iaload, 1) := by decide +kernel
theorem dX8_goesOn_38 : decode cX8_goesOn 38 = .ok (.iconst 1, 1) := by decide +kernel
theorem dX8_goesOn_39 : decode cX8_goesOn 39 = .ok (.isub, 1) := by decide +kernel
theorem dX8_goesOn_40 : decode cX8_goesOn 40 = .ok (.if_icmp .ge 7, 3) := by decide +kernel
theorem dX8_goesOn_43 : decode cX8_goesOn 43 = .ok (.iconst 1, 1) := by decide +kernel
theorem dX8_goesOn_44 : decode cX8_goesOn 44 = .ok (.goto 4, 3) := by decide +kernel
theorem dX8_goesOn_47 : decode cX8_goesOn 47 = .ok (.iconst 0, 1) := by decide +kernel
theorem dX8_goesOn_48 : decode cX8_goesOn 48 = .ok (.istore_n 3, 1) := by decide +kernel
theorem dX8_goesOn_49 : decode cX8_goesOn 49 = .ok (.aload_n 0, 1) := by decide +kernel
theorem dX8_goesOn_50 : decode cX8_goesOn 50 = .ok (.getfield 7, 3) := by decide +kernel
theorem dX8_goesOn_53 : decode cX8_goesOn 53 = .ok (.bipush 14, 2) := by decide +kernel
theorem dX8_goesOn_55 : decode cX8_goesOn 55 = .ok (.dup2, 1) := by decide +kernel
theorem dX8_goesOn_56 : decode cX8_goesOn 56 = .ok (.iaload, 1) := by decide +kernel
theorem dX8_goesOn_57 : decode cX8_goesOn 57 = .ok (.iload_n 2, 1) := by decide +kernel
theorem dX8_goesOn_58 : decode cX8_goesOn 58 = .ok (.ifCond .le 11, 3) := by decide +kernel
theorem dX8_goesOn_61 : decode cX8_goesOn 61 = .ok (.iload_n 3, 1) := by decide +kernel
theorem dX8_goesOn_62 : decode cX8_goesOn 62 = .ok (.ifCond .ne 7, 3) := by decide +kernel
theorem dX8_goesOn_65 : decode cX8_goesOn 65 = .ok (.iconst 1, 1) := by decide +kernel
theorem dX8_goesOn_66 : decode cX8_goesOn 66 = .ok (.goto 4, 3) := by decide +kernel
theorem dX8_goesOn_69 : decode cX8_goesOn 69 = .ok (.iconst 0, 1) := by decide +kernel
theorem dX8_goesOn_70 : decode cX8_goesOn 70 = .ok (.iadd, 1) := by decide +kernel
theorem dX8_goesOn_71 : decode cX8_goesOn 71 = .ok (.iastore, 1) := by decide +kernel
theorem dX8_goesOn_72 : decode cX8_goesOn 72 = .ok (.aload_n 0, 1) := by decide +kernel
theorem dX8_goesOn_73 : decode cX8_goesOn 73 = .ok (.getfield 7, 3) := by decide +kernel
theorem dX8_goesOn_76 : decode cX8_goesOn 76 = .ok (.bipush 9, 2) := by decide +kernel
theorem dX8_goesOn_78 : decode cX8_goesOn 78 = .ok (.iload_n 3, 1) := by decide +kernel
theorem dX8_goesOn_79 : decode cX8_goesOn 79 = .ok (.ifCond .eq 7, 3) := by decide +kernel
theorem dX8_goesOn_82 : decode cX8_goesOn 82 = .ok (.iload_n 2, 1) := by decide +kernel
theorem dX8_goesOn_83 : decode cX8_goesOn 83 = .ok (.goto 4, 3) := by decide +kernel
theorem dX8_goesOn_86 : decode cX8_goesOn 86 = .ok (.iconst 0, 1) := by decide +kernel
theorem dX8_goesOn_87 : decode cX8_goesOn 87 = .ok (.iastore, 1) := by decide +kernel
theorem dX8_goesOn_88 : decode cX8_goesOn 88 = .ok (.iload_n 3, 1) := by decide +kernel
theorem dX8_goesOn_89 : decode cX8_goesOn 89 = .ok (.ifCond .eq 124, 3) := by decide +kernel
theorem dX8_goesOn_92 : decode cX8_goesOn 92 = .ok (.aload_n 0, 1) := by decide +kernel
theorem dX8_goesOn_93 : decode cX8_goesOn 93 = .ok (.getfield 7, 3) := by decide +kernel
theorem dX8_goesOn_96 : decode cX8_goesOn 96 = .ok (.bipush 8, 2) := by decide +kernel
theorem dX8_goesOn_98 : decode cX8_goesOn 98 = .ok (.dup2, 1) := by decide +kernel
theorem dX8_goesOn_99 : decode cX8_goesOn 99 = .ok (.iaload, 1) := by decide +kernel
theorem dX8_goesOn_100 : decode cX8_goesOn 100 = .ok (.iconst 1, 1) := by decide +kernel
theorem dX8_goesOn_101 : decode cX8_goesOn 101 = .ok (.iadd, 1) := by decide +kernel
theorem dX8_goesOn_102 : decode cX8_goesOn 102 = .ok (.iastore, 1) := by decide +kernel
theorem dX8_goesOn_103 : decode cX8_goesOn 103 = .ok (.aload_n 0, 1) := by decide +kernel
theorem dX8_goesOn_104 : decode cX8_goesOn 104 = .ok (.getfield 7, 3) := by decide +kernel
theorem dX8_goesOn_107 : decode cX8_goesOn 107 = .ok (.bipush 15, 2) := by decide +kernel
theorem dX8_goesOn_109 : decode cX8_goesOn 109 = .ok (.dup2, 1) := by decide +kernel
theorem dX8_goesOn_110 : decode cX8_goesOn 110 = .ok (.iaload, 1) := by decide +kernel
theorem dX8_goesOn_111 : decode cX8_goesOn 111 = .ok (.iconst 1, 1) := by decide +kernel
theorem dX8_goesOn_112 : decode cX8_goesOn 112 = .ok (.iadd, 1) := by decide +kernel
theorem dX8_goesOn_113 : decode cX8_goesOn 113 = .ok (.iastore, 1) := by decide +kernel
theorem dX8_goesOn_114 : decode cX8_goesOn 114 = .ok (.aload_n 0, 1) := by decide +kernel
theorem dX8_goesOn_115 : decode cX8_goesOn 115 = .ok (.getfield 7, 3) := by decide +kernel
theorem dX8_goesOn_118 : decode cX8_goesOn 118 = .ok (.bipush 11, 2) := by decide +kernel
theorem dX8_goesOn_120 : decode cX8_goesOn 120 = .ok (.dup2, 1) := by decide +kernel
theorem dX8_goesOn_121 : decode cX8_goesOn 121 = .ok (.iaload, 1) := by decide +kernel
theorem dX8_goesOn_122 : decode cX8_goesOn 122 = .ok (.sipush 1000, 3) := by decide +kernel
theorem dX8_goesOn_125 : decode cX8_goesOn 125 = .ok (.aload_n 0, 1) := by decide +kernel
theorem dX8_goesOn_126 : decode cX8_goesOn 126 = .ok (.getfield 7, 3) := by decide +kernel
theorem dX8_goesOn_129 : decode cX8_goesOn 129 = .ok (.iconst 4, 1) := by decide +kernel
theorem dX8_goesOn_130 : decode cX8_goesOn 130 = .ok (.iaload, 1) := by decide +kernel
theorem dX8_goesOn_131 : decode cX8_goesOn 131 = .ok (.isub, 1) := by decide +kernel
theorem dX8_goesOn_132 : decode cX8_goesOn 132 = .ok (.iadd, 1) := by decide +kernel
theorem dX8_goesOn_133 : decode cX8_goesOn 133 = .ok (.iastore, 1) := by decide +kernel
theorem dX8_goesOn_134 : decode cX8_goesOn 134 = .ok (.aload_n 0, 1) := by decide +kernel
theorem dX8_goesOn_135 : decode cX8_goesOn 135 = .ok (.getfield 7, 3) := by decide +kernel
theorem dX8_goesOn_138 : decode cX8_goesOn 138 = .ok (.bipush 12, 2) := by decide +kernel
theorem dX8_goesOn_140 : decode cX8_goesOn 140 = .ok (.dup2, 1) := by decide +kernel
theorem dX8_goesOn_141 : decode cX8_goesOn 141 = .ok (.iaload, 1) := by decide +kernel
theorem dX8_goesOn_142 : decode cX8_goesOn 142 = .ok (.sipush 1000, 3) := by decide +kernel
theorem dX8_goesOn_145 : decode cX8_goesOn 145 = .ok (.aload_n 0, 1) := by decide +kernel
theorem dX8_goesOn_146 : decode cX8_goesOn 146 = .ok (.getfield 7, 3) := by decide +kernel
theorem dX8_goesOn_149 : decode cX8_goesOn 149 = .ok (.iconst 4, 1) := by decide +kernel
theorem dX8_goesOn_150 : decode cX8_goesOn 150 = .ok (.iaload, 1) := by decide +kernel
theorem dX8_goesOn_151 : decode cX8_goesOn 151 = .ok (.iadd, 1) := by decide +kernel
theorem dX8_goesOn_152 : decode cX8_goesOn 152 = .ok (.iadd, 1) := by decide +kernel
theorem dX8_goesOn_153 : decode cX8_goesOn 153 = .ok (.iastore, 1) := by decide +kernel
theorem dX8_goesOn_154 : decode cX8_goesOn 154 = .ok (.aload_n 0, 1) := by decide +kernel
theorem dX8_goesOn_155 : decode cX8_goesOn 155 = .ok (.getfield 7, 3) := by decide +kernel
theorem dX8_goesOn_158 : decode cX8_goesOn 158 = .ok (.bipush 16, 2) := by decide +kernel
theorem dX8_goesOn_160 : decode cX8_goesOn 160 = .ok (.iconst 3, 1) := by decide +kernel
theorem dX8_goesOn_161 : decode cX8_goesOn 161 = .ok (.aload_n 0, 1) := by decide +kernel
theorem dX8_goesOn_162 : decode cX8_goesOn 162 = .ok (.getfield 7, 3) := by decide +kernel
theorem dX8_goesOn_165 : decode cX8_goesOn 165 = .ok (.bipush 8, 2) := by decide +kernel
theorem dX8_goesOn_167 : decode cX8_goesOn 167 = .ok (.iaload, 1) := by decide +kernel
theorem dX8_goesOn_168 : decode cX8_goesOn 168 = .ok (.imul, 1) := by decide +kernel
theorem dX8_goesOn_169 : decode cX8_goesOn 169 = .ok (.iadd, 1) := by decide +kernel
theorem dX8_goesOn_170 : decode cX8_goesOn 170 = .ok (.iconst 2, 1) := by decide +kernel
theorem dX8_goesOn_171 : decode cX8_goesOn 171 = .ok (.iadd, 1) := by decide +kernel
theorem dX8_goesOn_172 : decode cX8_goesOn 172 = .ok (.iaload, 1) := by decide +kernel
theorem dX8_goesOn_173 : decode cX8_goesOn 173 = .ok (.iconst 1, 1) := by decide +kernel
theorem dX8_goesOn_174 : decode cX8_goesOn 174 = .ok (.if_icmp .ne 39, 3) := by decide +kernel
theorem dX8_goesOn_177 : decode cX8_goesOn 177 = .ok (.aload_n 0, 1) := by decide +kernel
theorem dX8_goesOn_178 : decode cX8_goesOn 178 = .ok (.getfield 7, 3) := by decide +kernel
theorem dX8_goesOn_181 : decode cX8_goesOn 181 = .ok (.bipush 11, 2) := by decide +kernel
theorem dX8_goesOn_183 : decode cX8_goesOn 183 = .ok (.sipush 1000, 3) := by decide +kernel
theorem dX8_goesOn_186 : decode cX8_goesOn 186 = .ok (.aload_n 0, 1) := by decide +kernel
theorem dX8_goesOn_187 : decode cX8_goesOn 187 = .ok (.getfield 7, 3) := by decide +kernel
theorem dX8_goesOn_190 : decode cX8_goesOn 190 = .ok (.bipush 8, 2) := by decide +kernel
theorem dX8_goesOn_192 : decode cX8_goesOn 192 = .ok (.iaload, 1) := by decide +kernel
theorem dX8_goesOn_193 : decode cX8_goesOn 193 = .ok (.imul, 1) := by decide +kernel
theorem dX8_goesOn_194 : decode cX8_goesOn 194 = .ok (.iastore, 1) := by decide +kernel
theorem dX8_goesOn_195 : decode cX8_goesOn 195 = .ok (.aload_n 0, 1) := by decide +kernel
theorem dX8_goesOn_196 : decode cX8_goesOn 196 = .ok (.getfield 7, 3) := by decide +kernel
theorem dX8_goesOn_199 : decode cX8_goesOn 199 = .ok (.bipush 12, 2) := by decide +kernel
theorem dX8_goesOn_201 : decode cX8_goesOn 201 = .ok (.sipush 1000, 3) := by decide +kernel
theorem dX8_goesOn_204 : decode cX8_goesOn 204 = .ok (.aload_n 0, 1) := by decide +kernel
theorem dX8_goesOn_205 : decode cX8_goesOn 205 = .ok (.getfield 7, 3) := by decide +kernel
theorem dX8_goesOn_208 : decode cX8_goesOn 208 = .ok (.bipush 8, 2) := by decide +kernel
theorem dX8_goesOn_210 : decode cX8_goesOn 210 = .ok (.iaload, 1) := by decide +kernel
theorem dX8_goesOn_211 : decode cX8_goesOn 211 = .ok (.imul, 1) := by decide +kernel
theorem dX8_goesOn_212 : decode cX8_goesOn 212 = .ok (.iastore, 1) := by decide +kernel
theorem dX8_goesOn_213 : decode cX8_goesOn 213 = .ok (.aload_n 0, 1) := by decide +kernel
theorem dX8_goesOn_214 : decode cX8_goesOn 214 = .ok (.invokevirtual 128, 3) := by decide +kernel
theorem dX8_goesOn_217 : decode cX8_goesOn 217 = .ok (.iload_n 3, 1) := by decide +kernel
theorem dX8_goesOn_218 : decode cX8_goesOn 218 = .ok (.ireturn, 1) := by decide +kernel
theorem dX8_handle_0 : decode cX8_handle 0 = .ok (.aload_n 0, 1) := by decide +kernel
theorem dX8_handle_1 : decode cX8_handle 1 = .ok (.aload_n 0, 1) := by decide +kernel
theorem dX8_handle_2 : decode cX8_handle 2 = .ok (.invokevirtual 116, 3) := by decide +kernel
theorem dX8_handle_5 : decode cX8_handle 5 = .ok (.iconst 1, 1) := by decide +kernel
theorem dX8_handle_6 : decode cX8_handle 6 = .ok (.iadd, 1) := by decide +kernel
theorem dX8_handle_7 : decode cX8_handle 7 = .ok (.invokevirtual 110, 3) := by decide +kernel
theorem dX8_handle_10 : decode cX8_handle 10 = .ok (.istore_n 1, 1) := by decide +kernel
theorem dX8_handle_11 : decode cX8_handle 11 = .ok (.aload_n 0, 1) := by decide +kernel
theorem dX8_handle_12 : decode cX8_handle 12 = .ok (.aload_n 0, 1) := by decide +kernel
theorem dX8_handle_13 : decode cX8_handle 13 = .ok (.invokevirtual 113, 3) := by decide +kernel
theorem dX8_handle_16 : decode cX8_handle 16 = .ok (.iload_n 1, 1) := by decide +kernel
theorem dX8_handle_17 : decode cX8_handle 17 = .ok (.invokevirtual 119, 3) := by decide +kernel
theorem dX8_handle_20 : decode cX8_handle 20 = .ok (.istore_n 2, 1) := by decide +kernel
theorem dX8_handle_21 : decode cX8_handle 21 = .ok (.iconst 1, 1) := by decide +kernel
theorem dX8_handle_22 : decode cX8_handle 22 = .ok (.istore_n 3, 1) := by decide +kernel
theorem dX8_handle_23 : decode cX8_handle 23 = .ok (.iload_n 3, 1) := by decide +kernel
theorem dX8_handle_24 : decode cX8_handle 24 = .ok (.iconst (-1), 1) := by decide +kernel
theorem dX8_handle_25 : decode cX8_handle 25 = .ok (.if_icmp .le 29, 3) := by decide +kernel
theorem dX8_handle_28 : decode cX8_handle 28 = .ok (.aload_n 0, 1) := by decide +kernel
theorem dX8_handle_29 : decode cX8_handle 29 = .ok (.getfield 7, 3) := by decide +kernel
theorem dX8_handle_32 : decode cX8_handle 32 = .ok (.bipush 9, 2) := by decide +kernel
theorem dX8_handle_34 : decode cX8_handle 34 = .ok (.iaload, 1) := by decide +kernel
theorem dX8_handle_35 : decode cX8_handle 35 = .ok (.aload_n 0, 1) := by decide +kernel
theorem dX8_handle_36 : decode cX8_handle 36 = .ok (.iconst 0, 1) := by decide +kernel
theorem dX8_handle_37 : decode cX8_handle 37 = .ok (.iload_n 3, 1) := by decide +kernel
theorem dX8_handle_38 : decode cX8_handle 38 = .ok (.invokevirtual 125, 3) := by decide +kernel
theorem dX8_handle_41 : decode cX8_handle 41 = .ok (.iadd, 1) := by decide +kernel
theorem dX8_handle_42 : decode cX8_handle 42 = .ok (.iload_n 2, 1) := by decide +kernel
theorem dX8_handle_43 : decode cX8_handle 43 = .ok (.if_icmp .gt 5, 3) := by decide +kernel
theorem dX8_handle_46 : decode cX8_handle 46 = .ok (.iload_n 3, 1) := by decide +kernel
theorem dX8_handle_47 : decode cX8_handle 47 = .ok (.ireturn, 1) := by decide +kernel
theorem dX8_handle_48 : decode cX8_handle 48 = .ok (.iinc 3 (-1), 3) := by decide +kernel
theorem dX8_handle_51 : decode cX8_handle 51 = .ok (.goto (-28), 3) := by decide +kernel
theorem dX8_handle_54 : decode cX8_handle 54 = .ok (.iconst (-1), 1) := by decide +kernel
theorem dX8_handle_55 : decode cX8_handle 55 = .ok (.ireturn, 1) := by decide +kernel
theorem dX8_places_0 : decode cX8_places 0 = .ok (.aload_n 0, 1) := by decide +kernel
theorem dX8_places_1 : decode cX8_places 1 = .ok (.iload_n 1, 1) := by decide +kernel
theorem dX8_places_2 : decode cX8_places 2 = .ok (.invokevirtual 70, 3) := by decide +kernel
theorem dX8_places_5 : decode cX8_places 5 = .ok (.ifCond .eq 13, 3) := by decide +kernel
theorem dX8_places_8 : decode cX8_places 8 = .ok (.iload_n 2, 1) := by decide +kernel
theorem dX8_places_9 : decode cX8_places 9 = .ok (.iconst 0, 1) := by decide +kernel
theorem dX8_places_10 : decode cX8_places 10 = .ok (.bipush 99, 2) := by decide +kernel
theorem dX8_places_12 : decode cX8_places 12 = .ok (.invokestatic 45, 3) := by decide +kernel
theorem dX8_places_15 : decode cX8_places 15 = .ok (.ifCond .ne 8, 3) := by decide +kernel
theorem dX8_places_18 : decode cX8_places 18 = .ok (.aload_n 0, 1) := by decide +kernel
theorem dX8_places_19 : decode cX8_places 19 = .ok (.invokevirtual 60, 3) := by decide +kernel
theorem dX8_places_22 : decode cX8_places 22 = .ok (.ireturn, 1) := by decide +kernel
theorem dX8_places_23 : decode cX8_places 23 = .ok (.aload_n 0, 1) := by decide +kernel
theorem dX8_places_24 : decode cX8_places 24 = .ok (.invokevirtual 64, 3) := by decide +kernel
theorem dX8_places_27 : decode cX8_places 27 = .ok (.aload_n 0, 1) := by decide +kernel
theorem dX8_places_28 : decode cX8_places 28 = .ok (.getfield 7, 3) := by decide +kernel
theorem dX8_places_31 : decode cX8_places 31 = .ok (.bipush 8, 2) := by decide +kernel
theorem dX8_places_33 : decode cX8_places 33 = .ok (.iload_n 1, 1) := by decide +kernel
theorem dX8_places_34 : decode cX8_places 34 = .ok (.iastore, 1) := by decide +kernel
theorem dX8_places_35 : decode cX8_places 35 = .ok (.aload_n 0, 1) := by decide +kernel
theorem dX8_places_36 : decode cX8_places 36 = .ok (.getfield 7, 3) := by decide +kernel
theorem dX8_places_39 : decode cX8_places 39 = .ok (.bipush 9, 2) := by decide +kernel
theorem dX8_places_41 : decode cX8_places 41 = .ok (.iload_n 2, 1) := by decide +kernel
theorem dX8_places_42 : decode cX8_places 42 = .ok (.iload_n 2, 1) := by decide +kernel
theorem dX8_places_43 : decode cX8_places 43 = .ok (.imul, 1) := by decide +kernel
theorem dX8_places_44 : decode cX8_places 44 = .ok (.iastore, 1) := by decide +kernel
theorem dX8_places_45 : decode cX8_places 45 = .ok (.aload_n 0, 1) := by decide +kernel
theorem dX8_places_46 : decode cX8_places 46 = .ok (.getfield 7, 3) := by decide +kernel
theorem dX8_places_49 : decode cX8_places 49 = .ok (.bipush 10, 2) := by decide +kernel
theorem dX8_places_51 : decode cX8_places 51 = .ok (.iconst 0, 1) := by decide +kernel
theorem dX8_places_52 : decode cX8_places 52 = .ok (.iastore, 1) := by decide +kernel
theorem dX8_places_53 : decode cX8_places 53 = .ok (.aload_n 0, 1) := by decide +kernel
theorem dX8_places_54 : decode cX8_places 54 = .ok (.getfield 7, 3) := by decide +kernel
theorem dX8_places_57 : decode cX8_places 57 = .ok (.bipush 11, 2) := by decide +kernel
theorem dX8_places_59 : decode cX8_places 59 = .ok (.sipush 1000, 3) := by decide +kernel
theorem dX8_places_62 : decode cX8_places 62 = .ok (.iload_n 1, 1) := by decide +kernel
theorem dX8_places_63 : decode cX8_places 63 = .ok (.imul, 1) := by decide +kernel
theorem dX8_places_64 : decode cX8_places 64 = .ok (.iastore, 1) := by decide +kernel
theorem dX8_places_65 : decode cX8_places 65 = .ok (.aload_n 0, 1) := by decide +kernel
theorem dX8_places_66 : decode cX8_places 66 = .ok (.getfield 7, 3) := by decide +kernel
theorem dX8_places_69 : decode cX8_places 69 = .ok (.bipush 12, 2) := by decide +kernel
theorem dX8_places_71 : decode cX8_places 71 = .ok (.sipush 1000, 3) := by decide +kernel
theorem dX8_places_74 : decode cX8_places 74 = .ok (.iload_n 1, 1) := by decide +kernel
theorem dX8_places_75 : decode cX8_places 75 = .ok (.imul, 1) := by decide +kernel
theorem dX8_places_76 : decode cX8_places 76 = .ok (.iastore, 1) := by decide +kernel
theorem dX8_places_77 : decode cX8_places 77 = .ok (.aload_n 0, 1) := by decide +kernel
theorem dX8_places_78 : decode cX8_places 78 = .ok (.invokevirtual 128, 3) := by decide +kernel
theorem dX8_places_81 : decode cX8_places 81 = .ok (.aload_n 0, 1) := by decide +kernel
theorem dX8_places_82 : decode cX8_places 82 = .ok (.getfield 7, 3) := by decide +kernel
theorem dX8_places_85 : decode cX8_places 85 = .ok (.bipush 10, 2) := by decide +kernel
theorem dX8_places_87 : decode cX8_places 87 = .ok (.iaload, 1) := by decide +kernel
theorem dX8_places_88 : decode cX8_places 88 = .ok (.ireturn, 1) := by decide +kernel
theorem dX8_steps_0 : decode cX8_steps 0 = .ok (.iload_n 1, 1) := by decide +kernel
theorem dX8_steps_1 : decode cX8_steps 1 = .ok (.iconst (-1), 1) := by decide +kernel
theorem dX8_steps_2 : decode cX8_steps 2 = .ok (.iconst 1, 1) := by decide +kernel
theorem dX8_steps_3 : decode cX8_steps 3 = .ok (.invokestatic 45, 3) := by decide +kernel
theorem dX8_steps_6 : decode cX8_steps 6 = .ok (.ifCond .ne 8, 3) := by decide +kernel
theorem dX8_steps_9 : decode cX8_steps 9 = .ok (.aload_n 0, 1) := by decide +kernel
theorem dX8_steps_10 : decode cX8_steps 10 = .ok (.invokevirtual 60, 3) := by decide +kernel
theorem dX8_steps_13 : decode cX8_steps 13 = .ok (.ireturn, 1) := by decide +kernel
theorem dX8_steps_14 : decode cX8_steps 14 = .ok (.aload_n 0, 1) := by decide +kernel
theorem dX8_steps_15 : decode cX8_steps 15 = .ok (.invokevirtual 64, 3) := by decide +kernel
theorem dX8_steps_18 : decode cX8_steps 18 = .ok (.aload_n 0, 1) := by decide +kernel
theorem dX8_steps_19 : decode cX8_steps 19 = .ok (.iload_n 1, 1) := by decide +kernel
theorem dX8_steps_20 : decode cX8_steps 20 = .ok (.invokevirtual 131, 3) := by decide +kernel
theorem dX8_steps_23 : decode cX8_steps 23 = .ok (.ifCond .eq 7, 3) := by decide +kernel
theorem dX8_steps_26 : decode cX8_steps 26 = .ok (.iconst 1, 1) := by decide +kernel
theorem dX8_steps_27 : decode cX8_steps 27 = .ok (.goto 4, 3) := by decide +kernel
theorem dX8_steps_30 : decode cX8_steps 30 = .ok (.iconst 0, 1) := by decide +kernel
theorem dX8_steps_31 : decode cX8_steps 31 = .ok (.ireturn, 1) := by decide +kernel
theorem dX8_drives_0 : decode cX8_drives 0 = .ok (.iload_n 1, 1) := by decide +kernel
theorem dX8_drives_1 : decode cX8_drives 1 = .ok (.iconst 1, 1) := by decide +kernel
theorem dX8_drives_2 : decode cX8_drives 2 = .ok (.bipush 50, 2) := by decide +kernel
theorem dX8_drives_4 : decode cX8_drives 4 = .ok (.invokestatic 45, 3) := by decide +kernel
theorem dX8_drives_7 : decode cX8_drives 7 = .ok (.ifCond .ne 8, 3) := by decide +kernel
theorem dX8_drives_10 : decode cX8_drives 10 = .ok (.aload_n 0, 1) := by decide +kernel
theorem dX8_drives_11 : decode cX8_drives 11 = .ok (.invokevirtual 60, 3) := by decide +kernel
theorem dX8_drives_14 : decode cX8_drives 14 = .ok (.ireturn, 1) := by decide +kernel
theorem dX8_drives_15 : decode cX8_drives 15 = .ok (.aload_n 0, 1) := by decide +kernel
theorem dX8_drives_16 : decode cX8_drives 16 = .ok (.invokevirtual 64, 3) := by decide +kernel
theorem dX8_drives_19 : decode cX8_drives 19 = .ok (.iconst 0, 1) := by decide +kernel
theorem dX8_drives_20 : decode cX8_drives 20 = .ok (.istore_n 2, 1) := by decide +kernel
theorem dX8_drives_21 : decode cX8_drives 21 = .ok (.iconst 1, 1) := by decide +kernel
theorem dX8_drives_22 : decode cX8_drives 22 = .ok (.istore_n 3, 1) := by decide +kernel
theorem dX8_drives_23 : decode cX8_drives 23 = .ok (.iconst 0, 1) := by decide +kernel
theorem dX8_drives_24 : decode cX8_drives 24 = .ok (.istore 4, 2) := by decide +kernel
theorem dX8_drives_26 : decode cX8_drives 26 = .ok (.iload 4, 2) := by decide +kernel
theorem dX8_drives_28 : decode cX8_drives 28 = .ok (.iload_n 1, 1) := by decide +kernel
theorem dX8_drives_29 : decode cX8_drives 29 = .ok (.if_icmp .ge 38, 3) := by decide +kernel
theorem dX8_drives_32 : decode cX8_drives 32 = .ok (.iload_n 3, 1) := by decide +kernel
theorem dX8_drives_33 : decode cX8_drives 33 = .ok (.ifCond .eq 34, 3) := by decide +kernel
theorem dX8_drives_36 : decode cX8_drives 36 = .ok (.aload_n 0, 1) := by decide +kernel
theorem dX8_drives_37 : decode cX8_drives 37 = .ok (.invokevirtual 134, 3) := by decide +kernel
theorem dX8_drives_40 : decode cX8_drives 40 = .ok (.istore 5, 2) := by decide +kernel
theorem dX8_drives_42 : decode cX8_drives 42 = .ok (.aload_n 0, 1) := by decide +kernel
theorem dX8_drives_43 : decode cX8_drives 43 = .ok (.iload 5, 2) := by decide +kernel
theorem dX8_drives_45 : decode cX8_drives 45 = .ok (.invokevirtual 131, 3) := by decide +kernel
theorem dX8_drives_48 : decode cX8_drives 48 = .ok (.istore_n 3, 1) := by decide +kernel
theorem dX8_drives_49 : decode cX8_drives 49 = .ok (.iload_n 2, 1) := by decide +kernel
theorem dX8_drives_50 : decode cX8_drives 50 = .ok (.iload_n 3, 1) := by decide +kernel
theorem dX8_drives_51 : decode cX8_drives 51 = .ok (.ifCond .eq 7, 3) := by decide +kernel
theorem dX8_drives_54 : decode cX8_drives 54 = .ok (.iconst 1, 1) := by decide +kernel
theorem dX8_drives_55 : decode cX8_drives 55 = .ok (.goto 4, 3) := by decide +kernel
theorem dX8_drives_58 : decode cX8_drives 58 = .ok (.iconst 0, 1) := by decide +kernel
theorem dX8_drives_59 : decode cX8_drives 59 = .ok (.iadd, 1) := by decide +kernel
theorem dX8_drives_60 : decode cX8_drives 60 = .ok (.istore_n 2, 1) := by decide +kernel
theorem dX8_drives_61 : decode cX8_drives 61 = .ok (.iinc 4 1, 3) := by decide +kernel
theorem dX8_drives_64 : decode cX8_drives 64 = .ok (.goto (-38), 3) := by decide +kernel
theorem dX8_drives_67 : decode cX8_drives 67 = .ok (.iload_n 2, 1) := by decide +kernel
theorem dX8_drives_68 : decode cX8_drives 68 = .ok (.ireturn, 1) := by decide +kernel
theorem dX8_frees_0 : decode cX8_frees 0 = .ok (.aload_n 0, 1) := by decide +kernel
theorem dX8_frees_1 : decode cX8_frees 1 = .ok (.getfield 7, 3) := by decide +kernel
theorem dX8_frees_4 : decode cX8_frees 4 = .ok (.bipush 10, 2) := by decide +kernel
theorem dX8_frees_6 : decode cX8_frees 6 = .ok (.iaload, 1) := by decide +kernel
theorem dX8_frees_7 : decode cX8_frees 7 = .ok (.iconst 3, 1) := by decide +kernel
theorem dX8_frees_8 : decode cX8_frees 8 = .ok (.if_icmp .ne 13, 3) := by decide +kernel
theorem dX8_frees_11 : decode cX8_frees 11 = .ok (.aload_n 0, 1) := by decide +kernel
theorem dX8_frees_12 : decode cX8_frees 12 = .ok (.getfield 7, 3) := by decide +kernel
theorem dX8_frees_15 : decode cX8_frees 15 = .ok (.bipush 9, 2) := by decide +kernel
theorem dX8_frees_17 : decode cX8_frees 17 = .ok (.iaload, 1) := by decide +kernel
theorem dX8_frees_18 : decode cX8_frees 18 = .ok (.ifCond .eq 8, 3) := by decide +kernel
theorem dX8_frees_21 : decode cX8_frees 21 = .ok (.aload_n 0, 1) := by decide +kernel
theorem dX8_frees_22 : decode cX8_frees 22 = .ok (.invokevirtual 137, 3) := by decide +kernel
theorem dX8_frees_25 : decode cX8_frees 25 = .ok (.ireturn, 1) := by decide +kernel
theorem dX8_frees_26 : decode cX8_frees 26 = .ok (.aload_n 0, 1) := by decide +kernel
theorem dX8_frees_27 : decode cX8_frees 27 = .ok (.invokevirtual 64, 3) := by decide +kernel
theorem dX8_frees_30 : decode cX8_frees 30 = .ok (.aload_n 0, 1) := by decide +kernel
theorem dX8_frees_31 : decode cX8_frees 31 = .ok (.getfield 7, 3) := by decide +kernel
theorem dX8_frees_34 : decode cX8_frees 34 = .ok (.bipush 10, 2) := by decide +kernel
theorem dX8_frees_36 : decode cX8_frees 36 = .ok (.iconst 0, 1) := by decide +kernel
theorem dX8_frees_37 : decode cX8_frees 37 = .ok (.iastore, 1) := by decide +kernel
theorem dX8_frees_38 : decode cX8_frees 38 = .ok (.aload_n 0, 1) := by decide +kernel
theorem dX8_frees_39 : decode cX8_frees 39 = .ok (.invokevirtual 128, 3) := by decide +kernel
theorem dX8_frees_42 : decode cX8_frees 42 = .ok (.aload_n 0, 1) := by decide +kernel
theorem dX8_frees_43 : decode cX8_frees 43 = .ok (.getfield 7, 3) := by decide +kernel
theorem dX8_frees_46 : decode cX8_frees 46 = .ok (.bipush 10, 2) := by decide +kernel
theorem dX8_frees_48 : decode cX8_frees 48 = .ok (.iaload, 1) := by decide +kernel
theorem dX8_frees_49 : decode cX8_frees 49 = .ok (.ireturn, 1) := by decide +kernel
theorem dX8_tellTrain_0 : decode cX8_tellTrain 0 = .ok (.iload_n 1, 1) := by decide +kernel
theorem dX8_tellTrain_1 : decode cX8_tellTrain 1 = .ok (.tableswitch 152 0 11 #[63, 71, 79, 90, 98, 106, 114, 119, 124, 129, 137, 145], 63) := by decide +kernel
theorem dX8_tellTrain_64 : decode cX8_tellTrain 64 = .ok (.aload_n 0, 1) := by decide +kernel
theorem dX8_tellTrain_65 : decode cX8_tellTrain 65 = .ok (.getfield 7, 3) := by decide +kernel
theorem dX8_tellTrain_68 : decode cX8_tellTrain 68 = .ok (.bipush 8, 2) := by decide +kernel
theorem dX8_tellTrain_70 : decode cX8_tellTrain 70 = .ok (.iaload, 1) := by decide +kernel
theorem dX8_tellTrain_71 : decode cX8_tellTrain 71 = .ok (.ireturn, 1) := by decide +kernel
theorem dX8_tellTrain_72 : decode cX8_tellTrain 72 = .ok (.aload_n 0, 1) := by decide +kernel
theorem dX8_tellTrain_73 : decode cX8_tellTrain 73 = .ok (.getfield 7, 3) := by decide +kernel
theorem dX8_tellTrain_76 : decode cX8_tellTrain 76 = .ok (.bipush 9, 2) := by decide +kernel
theorem dX8_tellTrain_78 : decode cX8_tellTrain 78 = .ok (.iaload, 1) := by decide +kernel
theorem dX8_tellTrain_79 : decode cX8_tellTrain 79 = .ok (.ireturn, 1) := by decide +kernel
theorem dX8_tellTrain_80 : decode cX8_tellTrain 80 = .ok (.aload_n 0, 1) := by decide +kernel
theorem dX8_tellTrain_81 : decode cX8_tellTrain 81 = .ok (.getfield 7, 3) := by decide +kernel
theorem dX8_tellTrain_84 : decode cX8_tellTrain 84 = .ok (.bipush 9, 2) := by decide +kernel
theorem dX8_tellTrain_86 : decode cX8_tellTrain 86 = .ok (.iaload, 1) := by decide +kernel
theorem dX8_tellTrain_87 : decode cX8_tellTrain 87 = .ok (.invokestatic 104, 3) := by decide +kernel
theorem dX8_tellTrain_90 : decode cX8_tellTrain 90 = .ok (.ireturn, 1) := by decide +kernel
theorem dX8_tellTrain_91 : decode cX8_tellTrain 91 = .ok (.aload_n 0, 1) := by decide +kernel
theorem dX8_tellTrain_92 : decode cX8_tellTrain 92 = .ok (.getfield 7, 3) := by decide +kernel
theorem dX8_tellTrain_95 : decode cX8_tellTrain 95 = .ok (.bipush 10, 2) := by decide +kernel
theorem dX8_tellTrain_97 : decode cX8_tellTrain 97 = .ok (.iaload, 1) := by decide +kernel
theorem dX8_tellTrain_98 : decode cX8_tellTrain 98 = .ok (.ireturn, 1) := by decide +kernel
theorem dX8_tellTrain_99 : decode cX8_tellTrain 99 = .ok (.aload_n 0, 1) := by decide +kernel
theorem dX8_tellTrain_100 : decode cX8_tellTrain 100 = .ok (.getfield 7, 3) := by decide +kernel
theorem dX8_tellTrain_103 : decode cX8_tellTrain 103 = .ok (.bipush 11, 2) := by decide +kernel
theorem dX8_tellTrain_105 : decode cX8_tellTrain 105 = .ok (.iaload, 1) := by decide +kernel
theorem dX8_tellTrain_106 : decode cX8_tellTrain 106 = .ok (.ireturn, 1) := by decide +kernel
theorem dX8_tellTrain_107 : decode cX8_tellTrain 107 = .ok (.aload_n 0, 1) := by decide +kernel
theorem dX8_tellTrain_108 : decode cX8_tellTrain 108 = .ok (.getfield 7, 3) := by decide +kernel
theorem dX8_tellTrain_111 : decode cX8_tellTrain 111 = .ok (.bipush 12, 2) := by decide +kernel
theorem dX8_tellTrain_113 : decode cX8_tellTrain 113 = .ok (.iaload, 1) := by decide +kernel
theorem dX8_tellTrain_114 : decode cX8_tellTrain 114 = .ok (.ireturn, 1) := by decide +kernel
theorem dX8_tellTrain_115 : decode cX8_tellTrain 115 = .ok (.aload_n 0, 1) := by decide +kernel
theorem dX8_tellTrain_116 : decode cX8_tellTrain 116 = .ok (.invokevirtual 113, 3) := by decide +kernel
theorem dX8_tellTrain_119 : decode cX8_tellTrain 119 = .ok (.ireturn, 1) := by decide +kernel
theorem dX8_tellTrain_120 : decode cX8_tellTrain 120 = .ok (.aload_n 0, 1) := by decide +kernel
theorem dX8_tellTrain_121 : decode cX8_tellTrain 121 = .ok (.invokevirtual 116, 3) := by decide +kernel
theorem dX8_tellTrain_124 : decode cX8_tellTrain 124 = .ok (.ireturn, 1) := by decide +kernel
theorem dX8_tellTrain_125 : decode cX8_tellTrain 125 = .ok (.aload_n 0, 1) := by decide +kernel
theorem dX8_tellTrain_126 : decode cX8_tellTrain 126 = .ok (.invokevirtual 122, 3) := by decide +kernel
theorem dX8_tellTrain_129 : decode cX8_tellTrain 129 = .ok (.ireturn, 1) := by decide +kernel
theorem dX8_tellTrain_130 : decode cX8_tellTrain 130 = .ok (.aload_n 0, 1) := by decide +kernel
theorem dX8_tellTrain_131 : decode cX8_tellTrain 131 = .ok (.getfield 7, 3) := by decide +kernel
theorem dX8_tellTrain_134 : decode cX8_tellTrain 134 = .ok (.bipush 13, 2) := by decide +kernel
theorem dX8_tellTrain_136 : decode cX8_tellTrain 136 = .ok (.iaload, 1) := by decide +kernel
theorem dX8_tellTrain_137 : decode cX8_tellTrain 137 = .ok (.ireturn, 1) := by decide +kernel
theorem dX8_tellTrain_138 : decode cX8_tellTrain 138 = .ok (.aload_n 0, 1) := by decide +kernel
theorem dX8_tellTrain_139 : decode cX8_tellTrain 139 = .ok (.getfield 7, 3) := by decide +kernel
theorem dX8_tellTrain_142 : decode cX8_tellTrain 142 = .ok (.bipush 14, 2) := by decide +kernel
theorem dX8_tellTrain_144 : decode cX8_tellTrain 144 = .ok (.iaload, 1) := by decide +kernel
theorem dX8_tellTrain_145 : decode cX8_tellTrain 145 = .ok (.ireturn, 1) := by decide +kernel
theorem dX8_tellTrain_146 : decode cX8_tellTrain 146 = .ok (.aload_n 0, 1) := by decide +kernel
theorem dX8_tellTrain_147 : decode cX8_tellTrain 147 = .ok (.invokevirtual 134, 3) := by decide +kernel
theorem dX8_tellTrain_150 : decode cX8_tellTrain 150 = .ok (.iconst 1, 1) := by decide +kernel
theorem dX8_tellTrain_151 : decode cX8_tellTrain 151 = .ok (.iadd, 1) := by decide +kernel
theorem dX8_tellTrain_152 : decode cX8_tellTrain 152 = .ok (.ireturn, 1) := by decide +kernel
theorem dX8_tellTrain_153 : decode cX8_tellTrain 153 = .ok (.aload_n 0, 1) := by decide +kernel
theorem dX8_tellTrain_154 : decode cX8_tellTrain 154 = .ok (.getfield 7, 3) := by decide +kernel
theorem dX8_tellTrain_157 : decode cX8_tellTrain 157 = .ok (.bipush 15, 2) := by decide +kernel
theorem dX8_tellTrain_159 : decode cX8_tellTrain 159 = .ok (.iaload, 1) := by decide +kernel
theorem dX8_tellTrain_160 : decode cX8_tellTrain 160 = .ok (.ireturn, 1) := by decide +kernel
theorem dX8_train_0 : decode cX8_train 0 = .ok (.iload_n 1, 1) := by decide +kernel
theorem dX8_train_1 : decode cX8_train 1 = .ok (.iconst 0, 1) := by decide +kernel
theorem dX8_train_2 : decode cX8_train 2 = .ok (.bipush 12, 2) := by decide +kernel
theorem dX8_train_4 : decode cX8_train 4 = .ok (.invokestatic 45, 3) := by decide +kernel
theorem dX8_train_7 : decode cX8_train 7 = .ok (.ifCond .eq 11, 3) := by decide +kernel
theorem dX8_train_10 : decode cX8_train 10 = .ok (.aload_n 0, 1) := by decide +kernel
theorem dX8_train_11 : decode cX8_train 11 = .ok (.iload_n 1, 1) := by decide +kernel
theorem dX8_train_12 : decode cX8_train 12 = .ok (.invokevirtual 140, 3) := by decide +kernel
theorem dX8_train_15 : decode cX8_train 15 = .ok (.goto 7, 3) := by decide +kernel
theorem dX8_train_18 : decode cX8_train 18 = .ok (.aload_n 0, 1) := by decide +kernel
theorem dX8_train_19 : decode cX8_train 19 = .ok (.invokevirtual 60, 3) := by decide +kernel
theorem dX8_train_22 : decode cX8_train 22 = .ok (.ireturn, 1) := by decide +kernel
theorem dX8_type_0 : decode cX8_type 0 = .ok (.iload_n 1, 1) := by decide +kernel
theorem dX8_type_1 : decode cX8_type 1 = .ok (.iconst 0, 1) := by decide +kernel
theorem dX8_type_2 : decode cX8_type 2 = .ok (.bipush 127, 2) := by decide +kernel
theorem dX8_type_4 : decode cX8_type 4 = .ok (.invokestatic 45, 3) := by decide +kernel
theorem dX8_type_7 : decode cX8_type 7 = .ok (.ifCond .ne 8, 3) := by decide +kernel
theorem dX8_type_10 : decode cX8_type 10 = .ok (.aload_n 0, 1) := by decide +kernel
theorem dX8_type_11 : decode cX8_type 11 = .ok (.invokevirtual 60, 3) := by decide +kernel
theorem dX8_type_14 : decode cX8_type 14 = .ok (.ireturn, 1) := by decide +kernel
theorem dX8_type_15 : decode cX8_type 15 = .ok (.aload_n 0, 1) := by decide +kernel
theorem dX8_type_16 : decode cX8_type 16 = .ok (.getfield 143, 3) := by decide +kernel
theorem dX8_type_19 : decode cX8_type 19 = .ok (.bipush 120, 2) := by decide +kernel
theorem dX8_type_21 : decode cX8_type 21 = .ok (.if_icmp .ne 16, 3) := by decide +kernel
theorem dX8_type_24 : decode cX8_type 24 = .ok (.aload_n 0, 1) := by decide +kernel
theorem dX8_type_25 : decode cX8_type 25 = .ok (.dup, 1) := by decide +kernel
theorem dX8_type_26 : decode cX8_type 26 = .ok (.getfield 146, 3) := by decide +kernel
theorem dX8_type_29 : decode cX8_type 29 = .ok (.iconst 1, 1) := by decide +kernel
theorem dX8_type_30 : decode cX8_type 30 = .ok (.iadd, 1) := by decide +kernel
theorem dX8_type_31 : decode cX8_type 31 = .ok (.putfield 146, 3) := by decide +kernel
theorem dX8_type_34 : decode cX8_type 34 = .ok (.bipush (-4), 2) := by decide +kernel
theorem dX8_type_36 : decode cX8_type 36 = .ok (.ireturn, 1) := by decide +kernel
theorem dX8_type_37 : decode cX8_type 37 = .ok (.aload_n 0, 1) := by decide +kernel
theorem dX8_type_38 : decode cX8_type 38 = .ok (.getfield 23, 3) := by decide +kernel
theorem dX8_type_41 : decode cX8_type 41 = .ok (.aload_n 0, 1) := by decide +kernel
theorem dX8_type_42 : decode cX8_type 42 = .ok (.getfield 143, 3) := by decide +kernel
theorem dX8_type_45 : decode cX8_type 45 = .ok (.iload_n 1, 1) := by decide +kernel
theorem dX8_type_46 : decode cX8_type 46 = .ok (.iastore, 1) := by decide +kernel
theorem dX8_type_47 : decode cX8_type 47 = .ok (.aload_n 0, 1) := by decide +kernel
theorem dX8_type_48 : decode cX8_type 48 = .ok (.dup, 1) := by decide +kernel
theorem dX8_type_49 : decode cX8_type 49 = .ok (.getfield 143, 3) := by decide +kernel
theorem dX8_type_52 : decode cX8_type 52 = .ok (.iconst 1, 1) := by decide +kernel
theorem dX8_type_53 : decode cX8_type 53 = .ok (.iadd, 1) := by decide +kernel
theorem dX8_type_54 : decode cX8_type 54 = .ok (.putfield 143, 3) := by decide +kernel
theorem dX8_type_57 : decode cX8_type 57 = .ok (.aload_n 0, 1) := by decide +kernel
theorem dX8_type_58 : decode cX8_type 58 = .ok (.getfield 143, 3) := by decide +kernel
theorem dX8_type_61 : decode cX8_type 61 = .ok (.ireturn, 1) := by decide +kernel
theorem dX8_clear_0 : decode cX8_clear 0 = .ok (.aload_n 0, 1) := by decide +kernel
theorem dX8_clear_1 : decode cX8_clear 1 = .ok (.getfield 143, 3) := by decide +kernel
theorem dX8_clear_4 : decode cX8_clear 4 = .ok (.istore_n 1, 1) := by decide +kernel
theorem dX8_clear_5 : decode cX8_clear 5 = .ok (.aload_n 0, 1) := by decide +kernel
theorem dX8_clear_6 : decode cX8_clear 6 = .ok (.iconst 0, 1) := by decide +kernel
theorem dX8_clear_7 : decode cX8_clear 7 = .ok (.putfield 143, 3) := by decide +kernel
theorem dX8_clear_10 : decode cX8_clear 10 = .ok (.iload_n 1, 1) := by decide +kernel
theorem dX8_clear_11 : decode cX8_clear 11 = .ok (.ireturn, 1) := by decide +kernel
theorem dX8_here_0 : decode cX8_here 0 = .ok (.aload_n 0, 1) := by decide +kernel
theorem dX8_here_1 : decode cX8_here 1 = .ok (.getfield 149, 3) := by decide +kernel
theorem dX8_here_4 : decode cX8_here 4 = .ok (.aload_n 0, 1) := by decide +kernel
theorem dX8_here_5 : decode cX8_here 5 = .ok (.getfield 143, 3) := by decide +kernel
theorem dX8_here_8 : decode cX8_here 8 = .ok (.if_icmp .ge 15, 3) := by decide +kernel
theorem dX8_here_11 : decode cX8_here 11 = .ok (.aload_n 0, 1) := by decide +kernel
theorem dX8_here_12 : decode cX8_here 12 = .ok (.getfield 23, 3) := by decide +kernel
theorem dX8_here_15 : decode cX8_here 15 = .ok (.aload_n 0, 1) := by decide +kernel
theorem dX8_here_16 : decode cX8_here 16 = .ok (.getfield 149, 3) := by decide +kernel
theorem dX8_here_19 : decode cX8_here 19 = .ok (.iaload, 1) := by decide +kernel
theorem dX8_here_20 : decode cX8_here 20 = .ok (.goto 4, 3) := by decide +kernel
theorem dX8_here_23 : decode cX8_here 23 = .ok (.iconst (-1), 1) := by decide +kernel
theorem dX8_here_24 : decode cX8_here 24 = .ok (.ireturn, 1) := by decide +kernel
theorem dX8_skips_0 : decode cX8_skips 0 = .ok (.aload_n 0, 1) := by decide +kernel
theorem dX8_skips_1 : decode cX8_skips 1 = .ok (.invokevirtual 152, 3) := by decide +kernel
theorem dX8_skips_4 : decode cX8_skips 4 = .ok (.bipush 32, 2) := by decide +kernel
theorem dX8_skips_6 : decode cX8_skips 6 = .ok (.if_icmp .ne 16, 3) := by decide +kernel
theorem dX8_skips_9 : decode cX8_skips 9 = .ok (.aload_n 0, 1) := by decide +kernel
theorem dX8_skips_10 : decode cX8_skips 10 = .ok (.dup, 1) := by decide +kernel
theorem dX8_skips_11 : decode cX8_skips 11 = .ok (.getfield 149, 3) := by decide +kernel
theorem dX8_skips_14 : decode cX8_skips 14 = .ok (.iconst 1, 1) := by decide +kernel
theorem dX8_skips_15 : decode cX8_skips 15 = .ok (.iadd, 1) := by decide +kernel
theorem dX8_skips_16 : decode cX8_skips 16 = .ok (.putfield 149, 3) := by decide +kernel
theorem dX8_skips_19 : decode cX8_skips 19 = .ok (.goto (-19), 3) := by decide +kernel
theorem dX8_skips_22 : decode cX8_skips 22 = .ok (.return_, 1) := by decide +kernel
theorem dX8_isFigure_0 : decode cX8_isFigure 0 = .ok (.aload_n 0, 1) := by decide +kernel
theorem dX8_isFigure_1 : decode cX8_isFigure 1 = .ok (.invokevirtual 152, 3) := by decide +kernel
theorem dX8_isFigure_4 : decode cX8_isFigure 4 = .ok (.bipush 48, 2) := by decide +kernel
theorem dX8_isFigure_6 : decode cX8_isFigure 6 = .ok (.bipush 57, 2) := by decide +kernel
theorem dX8_isFigure_8 : decode cX8_isFigure 8 = .ok (.invokestatic 45, 3) := by decide +kernel
theorem dX8_isFigure_11 : decode cX8_isFigure 11 = .ok (.ireturn, 1) := by decide +kernel
theorem dX8_spells_0 : decode cX8_spells 0 = .ok (.aload_n 0, 1) := by decide +kernel
theorem dX8_spells_1 : decode cX8_spells 1 = .ok (.getfield 149, 3) := by decide +kernel
theorem dX8_spells_4 : decode cX8_spells 4 = .ok (.iload_n 1, 1) := by decide +kernel
theorem dX8_spells_5 : decode cX8_spells 5 = .ok (.isub, 1) := by decide +kernel
theorem dX8_spells_6 : decode cX8_spells 6 = .ok (.iconst 2, 1) := by decide +kernel
theorem dX8_spells_7 : decode cX8_spells 7 = .ok (.if_icmp .le 73, 3) := by decide +kernel
theorem dX8_spells_10 : decode cX8_spells 10 = .ok (.aload_n 0, 1) := by decide +kernel
theorem dX8_spells_11 : decode cX8_spells 11 = .ok (.getfield 23, 3) := by decide +kernel
theorem dX8_spells_14 : decode cX8_spells 14 = .ok (.iload_n 1, 1) := by decide +kernel
theorem dX8_spells_15 : decode cX8_spells 15 = .ok (.iaload, 1) := by decide +kernel
theorem dX8_spells_16 : decode cX8_spells 16 = .ok (.iload_n 2, 1) := by decide +kernel
theorem dX8_spells_17 : decode cX8_spells 17 = .ok (.if_icmp .ne 63, 3) := by decide +kernel
theorem dX8_spells_20 : decode cX8_spells 20 = .ok (.aload_n 0, 1) := by decide +kernel
theorem dX8_spells_21 : decode cX8_spells 21 = .ok (.getfield 23, 3) := by decide +kernel
theorem dX8_spells_24 : decode cX8_spells 24 = .ok (.iload_n 1, 1) := by decide +kernel
theorem dX8_spells_25 : decode cX8_spells 25 = .ok (.iconst 1, 1) := by decide +kernel
theorem dX8_spells_26 : decode cX8_spells 26 = .ok (.iadd, 1) := by decide +kernel
theorem dX8_spells_27 : decode cX8_spells 27 = .ok (.iaload, 1) := by decide +kernel
theorem dX8_spells_28 : decode cX8_spells 28 = .ok (.iload_n 3, 1) := by decide +kernel
theorem dX8_spells_29 : decode cX8_spells 29 = .ok (.if_icmp .ne 51, 3) := by decide +kernel
theorem dX8_spells_32 : decode cX8_spells 32 = .ok (.aload_n 0, 1) := by decide +kernel
theorem dX8_spells_33 : decode cX8_spells 33 = .ok (.getfield 23, 3) := by decide +kernel
theorem dX8_spells_36 : decode cX8_spells 36 = .ok (.iload_n 1, 1) := by decide +kernel
theorem dX8_spells_37 : decode cX8_spells 37 = .ok (.iconst 2, 1) := by decide +kernel
theorem dX8_spells_38 : decode cX8_spells 38 = .ok (.iadd, 1) := by decide +kernel
theorem dX8_spells_39 : decode cX8_spells 39 = .ok (.iaload, 1) := by decide +kernel
theorem dX8_spells_40 : decode cX8_spells 40 = .ok (.iload 4, 2) := by decide +kernel
theorem dX8_spells_42 : decode cX8_spells 42 = .ok (.if_icmp .ne 38, 3) := by decide +kernel
theorem dX8_spells_45 : decode cX8_spells 45 = .ok (.aload_n 0, 1) := by decide +kernel
theorem dX8_spells_46 : decode cX8_spells 46 = .ok (.getfield 149, 3) := by decide +kernel
theorem dX8_spells_49 : decode cX8_spells 49 = .ok (.iload_n 1, 1) := by decide +kernel
theorem dX8_spells_50 : decode cX8_spells 50 = .ok (.isub, 1) := by decide +kernel
theorem dX8_spells_51 : decode cX8_spells 51 = .ok (.iconst 3, 1) := by decide +kernel
theorem dX8_spells_52 : decode cX8_spells 52 = .ok (.if_icmp .ne 11, 3) := by decide +kernel
theorem dX8_spells_55 : decode cX8_spells 55 = .ok (.iload 5, 2) := by decide +kernel
theorem dX8_spells_57 : decode cX8_spells 57 = .ok (.ifCond .ne 23, 3) := by decide +kernel
theorem dX8_spells_60 : decode cX8_spells 60 = .ok (.goto 16, 3) := by decide +kernel
theorem dX8_spells_63 : decode cX8_spells 63 = .ok (.aload_n 0, 1) := by decide +kernel
theorem dX8_spells_64 : decode cX8_spells 64 = .ok (.getfield 23, 3) := by decide +kernel
theorem dX8_spells_67 : decode cX8_spells 67 = .ok (.iload_n 1, 1) := by decide +kernel
theorem dX8_spells_68 : decode cX8_spells 68 = .ok (.iconst 3, 1) := by decide +kernel
theorem dX8_spells_69 : decode cX8_spells 69 = .ok (.iadd, 1) := by decide +kernel
theorem dX8_spells_70 : decode cX8_spells 70 = .ok (.iaload, 1) := by decide +kernel
theorem dX8_spells_71 : decode cX8_spells 71 = .ok (.iload 5, 2) := by decide +kernel
theorem dX8_spells_73 : decode cX8_spells 73 = .ok (.if_icmp .ne 7, 3) := by decide +kernel
theorem dX8_spells_76 : decode cX8_spells 76 = .ok (.iconst 1, 1) := by decide +kernel
theorem dX8_spells_77 : decode cX8_spells 77 = .ok (.goto 4, 3) := by decide +kernel
theorem dX8_spells_80 : decode cX8_spells 80 = .ok (.iconst 0, 1) := by decide +kernel
theorem dX8_spells_81 : decode cX8_spells 81 = .ok (.ireturn, 1) := by decide +kernel
theorem dX8_wordFrom_0 : decode cX8_wordFrom 0 = .ok (.aload_n 0, 1) := by decide +kernel
theorem dX8_wordFrom_1 : decode cX8_wordFrom 1 = .ok (.getfield 149, 3) := by decide +kernel
theorem dX8_wordFrom_4 : decode cX8_wordFrom 4 = .ok (.iload_n 1, 1) := by decide +kernel
theorem dX8_wordFrom_5 : decode cX8_wordFrom 5 = .ok (.isub, 1) := by decide +kernel
theorem dX8_wordFrom_6 : decode cX8_wordFrom 6 = .ok (.istore_n 2, 1) := by decide +kernel
theorem dX8_wordFrom_7 : decode cX8_wordFrom 7 = .ok (.iload_n 2, 1) := by decide +kernel
theorem dX8_wordFrom_8 : decode cX8_wordFrom 8 = .ok (.iconst 3, 1) := by decide +kernel
theorem dX8_wordFrom_9 : decode cX8_wordFrom 9 = .ok (.if_icmp .ne 20, 3) := by decide +kernel
theorem dX8_wordFrom_12 : decode cX8_wordFrom 12 = .ok (.aload_n 0, 1) := by decide +kernel
theorem dX8_wordFrom_13 : decode cX8_wordFrom 13 = .ok (.iload_n 1, 1) := by decide +kernel
theorem dX8_wordFrom_14 : decode cX8_wordFrom 14 = .ok (.bipush 108, 2) := by decide +kernel
theorem dX8_wordFrom_16 : decode cX8_wordFrom 16 = .ok (.bipush 101, 2) := by decide +kernel
theorem dX8_wordFrom_18 : decode cX8_wordFrom 18 = .ok (.bipush 110, 2) := by decide +kernel
theorem dX8_wordFrom_20 : decode cX8_wordFrom 20 = .ok (.iconst 0, 1) := by decide +kernel
theorem dX8_wordFrom_21 : decode cX8_wordFrom 21 = .ok (.invokevirtual 155, 3) := by decide +kernel
theorem dX8_wordFrom_24 : decode cX8_wordFrom 24 = .ok (.ifCond .eq 5, 3) := by decide +kernel
theorem dX8_wordFrom_27 : decode cX8_wordFrom 27 = .ok (.iconst 0, 1) := by decide +kernel
theorem dX8_wordFrom_28 : decode cX8_wordFrom 28 = .ok (.ireturn, 1) := by decide +kernel
theorem dX8_wordFrom_29 : decode cX8_wordFrom 29 = .ok (.iload_n 2, 1) := by decide +kernel
theorem dX8_wordFrom_30 : decode cX8_wordFrom 30 = .ok (.iconst 4, 1) := by decide +kernel
theorem dX8_wordFrom_31 : decode cX8_wordFrom 31 = .ok (.if_icmp .ne 66, 3) := by decide +kernel
theorem dX8_wordFrom_34 : decode cX8_wordFrom 34 = .ok (.aload_n 0, 1) := by decide +kernel
theorem dX8_wordFrom_35 : decode cX8_wordFrom 35 = .ok (.iload_n 1, 1) := by decide +kernel
theorem dX8_wordFrom_36 : decode cX8_wordFrom 36 = .ok (.bipush 99, 2) := by decide +kernel
theorem dX8_wordFrom_38 : decode cX8_wordFrom 38 = .ok (.bipush 101, 2) := by decide +kernel
theorem dX8_wordFrom_40 : decode cX8_wordFrom 40 = .ok (.bipush 105, 2) := by decide +kernel
theorem dX8_wordFrom_42 : decode cX8_wordFrom 42 = .ok (.bipush 108, 2) := by decide +kernel
theorem dX8_wordFrom_44 : decode cX8_wordFrom 44 = .ok (.invokevirtual 155, 3) := by decide +kernel
theorem dX8_wordFrom_47 : decode cX8_wordFrom 47 = .ok (.ifCond .eq 7, 3) := by decide +kernel
theorem dX8_wordFrom_50 : decode cX8_wordFrom 50 = .ok (.iconst 1, 1) := by decide +kernel
theorem dX8_wordFrom_51 : decode cX8_wordFrom 51 = .ok (.goto 45, 3) := by decide +kernel
theorem dX8_wordFrom_54 : decode cX8_wordFrom 54 = .ok (.aload_n 0, 1) := by decide +kernel
theorem dX8_wordFrom_55 : decode cX8_wordFrom 55 = .ok (.iload_n 1, 1) := by decide +kernel
theorem dX8_wordFrom_56 : decode cX8_wordFrom 56 = .ok (.bipush 112, 2) := by decide +kernel
theorem dX8_wordFrom_58 : decode cX8_wordFrom 58 = .ok (.bipush 117, 2) := by decide +kernel
theorem dX8_wordFrom_60 : decode cX8_wordFrom 60 = .ok (.bipush 108, 2) := by decide +kernel
theorem dX8_wordFrom_62 : decode cX8_wordFrom 62 = .ok (.bipush 108, 2) := by decide +kernel
theorem dX8_wordFrom_64 : decode cX8_wordFrom 64 = .ok (.invokevirtual 155, 3) := by decide +kernel
theorem dX8_wordFrom_67 : decode cX8_wordFrom 67 = .ok (.ifCond .eq 7, 3) := by decide +kernel
theorem dX8_wordFrom_70 : decode cX8_wordFrom 70 = .ok (.iconst 5, 1) := by decide +kernel
theorem dX8_wordFrom_71 : decode cX8_wordFrom 71 = .ok (.goto 25, 3) := by decide +kernel
theorem dX8_wordFrom_74 : decode cX8_wordFrom 74 = .ok (.aload_n 0, 1) := by decide +kernel
theorem dX8_wordFrom_75 : decode cX8_wordFrom 75 = .ok (.iload_n 1, 1) := by decide +kernel
theorem dX8_wordFrom_76 : decode cX8_wordFrom 76 = .ok (.bipush 108, 2) := by decide +kernel
theorem dX8_wordFrom_78 : decode cX8_wordFrom 78 = .ok (.bipush 111, 2) := by decide +kernel
theorem dX8_wordFrom_80 : decode cX8_wordFrom 80 = .ok (.bipush 110, 2) := by decide +kernel
theorem dX8_wordFrom_82 : decode cX8_wordFrom 82 = .ok (.bipush 103, 2) := by decide +kernel
theorem dX8_wordFrom_84 : decode cX8_wordFrom 84 = .ok (.invokevirtual 155, 3) := by decide +kernel
theorem dX8_wordFrom_87 : decode cX8_wordFrom 87 = .ok (.ifCond .eq 8, 3) := by decide +kernel
theorem dX8_wordFrom_90 : decode cX8_wordFrom 90 = .ok (.bipush 6, 2) := by decide +kernel
theorem dX8_wordFrom_92 : decode cX8_wordFrom 92 = .ok (.goto 4, 3) := by decide +kernel
theorem dX8_wordFrom_95 : decode cX8_wordFrom 95 = .ok (.iconst (-1), 1) := by decide +kernel
theorem dX8_wordFrom_96 : decode cX8_wordFrom 96 = .ok (.ireturn, 1) := by decide +kernel
theorem dX8_wordFrom_97 : decode cX8_wordFrom 97 = .ok (.iload_n 2, 1) := by decide +kernel
theorem dX8_wordFrom_98 : decode cX8_wordFrom 98 = .ok (.iconst 5, 1) := by decide +kernel
theorem dX8_wordFrom_99 : decode cX8_wordFrom 99 = .ok (.if_icmp .ne 139, 3) := by decide +kernel
theorem dX8_wordFrom_102 : decode cX8_wordFrom 102 = .ok (.aload_n 0, 1) := by decide +kernel
theorem dX8_wordFrom_103 : decode cX8_wordFrom 103 = .ok (.iload_n 1, 1) := by decide +kernel
theorem dX8_wordFrom_104 : decode cX8_wordFrom 104 = .ok (.bipush 103, 2) := by decide +kernel
theorem dX8_wordFrom_106 : decode cX8_wordFrom 106 = .ok (.bipush 114, 2) := by decide +kernel
theorem dX8_wordFrom_108 : decode cX8_wordFrom 108 = .ok (.bipush 97, 2) := by decide +kernel
theorem dX8_wordFrom_110 : decode cX8_wordFrom 110 = .ok (.bipush 100, 2) := by decide +kernel
theorem dX8_wordFrom_112 : decode cX8_wordFrom 112 = .ok (.invokevirtual 155, 3) := by decide +kernel
theorem dX8_wordFrom_115 : decode cX8_wordFrom 115 = .ok (.ifCond .eq 20, 3) := by decide +kernel
theorem dX8_wordFrom_118 : decode cX8_wordFrom 118 = .ok (.aload_n 0, 1) := by decide +kernel
theorem dX8_wordFrom_119 : decode cX8_wordFrom 119 = .ok (.getfield 23, 3) := by decide +kernel
theorem dX8_wordFrom_122 : decode cX8_wordFrom 122 = .ok (.iload_n 1, 1) := by decide +kernel
theorem dX8_wordFrom_123 : decode cX8_wordFrom 123 = .ok (.iconst 4, 1) := by decide +kernel
theorem dX8_wordFrom_124 : decode cX8_wordFrom 124 = .ok (.iadd, 1) := by decide +kernel
theorem dX8_wordFrom_125 : decode cX8_wordFrom 125 = .ok (.iaload, 1) := by decide +kernel
theorem dX8_wordFrom_126 : decode cX8_wordFrom 126 = .ok (.bipush 101, 2) := by decide +kernel
theorem dX8_wordFrom_128 : decode cX8_wordFrom 128 = .ok (.if_icmp .ne 7, 3) := by decide +kernel
theorem dX8_wordFrom_131 : decode cX8_wordFrom 131 = .ok (.iconst 1, 1) := by decide +kernel
theorem dX8_wordFrom_132 : decode cX8_wordFrom 132 = .ok (.goto 4, 3) := by decide +kernel
theorem dX8_wordFrom_135 : decode cX8_wordFrom 135 = .ok (.iconst 0, 1) := by decide +kernel
theorem dX8_wordFrom_136 : decode cX8_wordFrom 136 = .ok (.istore_n 3, 1) := by decide +kernel
theorem dX8_wordFrom_137 : decode cX8_wordFrom 137 = .ok (.aload_n 0, 1) := by decide +kernel
theorem dX8_wordFrom_138 : decode cX8_wordFrom 138 = .ok (.iload_n 1, 1) := by decide +kernel
theorem dX8_wordFrom_139 : decode cX8_wordFrom 139 = .ok (.bipush 98, 2) := by decide +kernel
theorem dX8_wordFrom_141 : decode cX8_wordFrom 141 = .ok (.bipush 114, 2) := by decide +kernel
theorem dX8_wordFrom_143 : decode cX8_wordFrom 143 = .ok (.bipush 97, 2) := by decide +kernel
theorem dX8_wordFrom_145 : decode cX8_wordFrom 145 = .ok (.bipush 107, 2) := by decide +kernel
theorem dX8_wordFrom_147 : decode cX8_wordFrom 147 = .ok (.invokevirtual 155, 3) := by decide +kernel
theorem dX8_wordFrom_150 : decode cX8_wordFrom 150 = .ok (.ifCond .eq 20, 3) := by decide +kernel
theorem dX8_wordFrom_153 : decode cX8_wordFrom 153 = .ok (.aload_n 0, 1) := by decide +kernel
theorem dX8_wordFrom_154 : decode cX8_wordFrom 154 = .ok (.getfield 23, 3) := by decide +kernel
theorem dX8_wordFrom_157 : decode cX8_wordFrom 157 = .ok (.iload_n 1, 1) := by decide +kernel
theorem dX8_wordFrom_158 : decode cX8_wordFrom 158 = .ok (.iconst 4, 1) := by decide +kernel
theorem dX8_wordFrom_159 : decode cX8_wordFrom 159 = .ok (.iadd, 1) := by decide +kernel
theorem dX8_wordFrom_160 : decode cX8_wordFrom 160 = .ok (.iaload, 1) := by decide +kernel
theorem dX8_wordFrom_161 : decode cX8_wordFrom 161 = .ok (.bipush 101, 2) := by decide +kernel
theorem dX8_wordFrom_163 : decode cX8_wordFrom 163 = .ok (.if_icmp .ne 7, 3) := by decide +kernel
theorem dX8_wordFrom_166 : decode cX8_wordFrom 166 = .ok (.iconst 1, 1) := by decide +kernel
theorem dX8_wordFrom_167 : decode cX8_wordFrom 167 = .ok (.goto 4, 3) := by decide +kernel
theorem dX8_wordFrom_170 : decode cX8_wordFrom 170 = .ok (.iconst 0, 1) := by decide +kernel
theorem dX8_wordFrom_171 : decode cX8_wordFrom 171 = .ok (.istore 4, 2) := by decide +kernel
theorem dX8_wordFrom_173 : decode cX8_wordFrom 173 = .ok (.aload_n 0, 1) := by decide +kernel
theorem dX8_wordFrom_174 : decode cX8_wordFrom 174 = .ok (.iload_n 1, 1) := by decide +kernel
theorem dX8_wordFrom_175 : decode cX8_wordFrom 175 = .ok (.bipush 101, 2) := by decide +kernel
theorem dX8_wordFrom_177 : decode cX8_wordFrom 177 = .ok (.bipush 114, 2) := by decide +kernel
theorem dX8_wordFrom_179 : decode cX8_wordFrom 179 = .ok (.bipush 114, 2) := by decide +kernel
theorem dX8_wordFrom_181 : decode cX8_wordFrom 181 = .ok (.bipush 111, 2) := by decide +kernel
theorem dX8_wordFrom_183 : decode cX8_wordFrom 183 = .ok (.invokevirtual 155, 3) := by decide +kernel
theorem dX8_wordFrom_186 : decode cX8_wordFrom 186 = .ok (.ifCond .eq 20, 3) := by decide +kernel
theorem dX8_wordFrom_189 : decode cX8_wordFrom 189 = .ok (.aload_n 0, 1) := by decide +kernel
theorem dX8_wordFrom_190 : decode cX8_wordFrom 190 = .ok (.getfield 23, 3) := by decide +kernel
theorem dX8_wordFrom_193 : decode cX8_wordFrom 193 = .ok (.iload_n 1, 1) := by decide +kernel
theorem dX8_wordFrom_194 : decode cX8_wordFrom 194 = .ok (.iconst 4, 1) := by decide +kernel
theorem dX8_wordFrom_195 : decode cX8_wordFrom 195 = .ok (.iadd, 1) := by decide +kernel
theorem dX8_wordFrom_196 : decode cX8_wordFrom 196 = .ok (.iaload, 1) := by decide +kernel
theorem dX8_wordFrom_197 : decode cX8_wordFrom 197 = .ok (.bipush 114, 2) := by decide +kernel
theorem dX8_wordFrom_199 : decode cX8_wordFrom 199 = .ok (.if_icmp .ne 7, 3) := by decide +kernel
theorem dX8_wordFrom_202 : decode cX8_wordFrom 202 = .ok (.iconst 1, 1) := by decide +kernel
theorem dX8_wordFrom_203 : decode cX8_wordFrom 203 = .ok (.goto 4, 3) := by decide +kernel
theorem dX8_wordFrom_206 : decode cX8_wordFrom 206 = .ok (.iconst 0, 1) := by decide +kernel
theorem dX8_wordFrom_207 : decode cX8_wordFrom 207 = .ok (.istore 5, 2) := by decide +kernel
theorem dX8_wordFrom_209 : decode cX8_wordFrom 209 = .ok (.iload_n 3, 1) := by decide +kernel
theorem dX8_wordFrom_210 : decode cX8_wordFrom 210 = .ok (.ifCond .eq 7, 3) := by decide +kernel
theorem dX8_wordFrom_213 : decode cX8_wordFrom 213 = .ok (.iconst 2, 1) := by decide +kernel
theorem dX8_wordFrom_214 : decode cX8_wordFrom 214 = .ok (.goto 23, 3) := by decide +kernel
theorem dX8_wordFrom_217 : decode cX8_wordFrom 217 = .ok (.iload 4, 2) := by decide +kernel
theorem dX8_wordFrom_219 : decode cX8_wordFrom 219 = .ok (.ifCond .eq 7, 3) := by decide +kernel
theorem dX8_wordFrom_222 : decode cX8_wordFrom 222 = .ok (.iconst 4, 1) := by decide +kernel
theorem dX8_wordFrom_223 : decode cX8_wordFrom 223 = .ok (.goto 14, 3) := by decide +kernel
theorem dX8_wordFrom_226 : decode cX8_wordFrom 226 = .ok (.iload 5, 2) := by decide +kernel
theorem dX8_wordFrom_228 : decode cX8_wordFrom 228 = .ok (.ifCond .eq 8, 3) := by decide +kernel
theorem dX8_wordFrom_231 : decode cX8_wordFrom 231 = .ok (.bipush 7, 2) := by decide +kernel
theorem dX8_wordFrom_233 : decode cX8_wordFrom 233 = .ok (.goto 4, 3) := by decide +kernel
theorem dX8_wordFrom_236 : decode cX8_wordFrom 236 = .ok (.iconst (-1), 1) := by decide +kernel
theorem dX8_wordFrom_237 : decode cX8_wordFrom 237 = .ok (.ireturn, 1) := by decide +kernel
theorem dX8_wordFrom_238 : decode cX8_wordFrom 238 = .ok (.iload_n 2, 1) := by decide +kernel
theorem dX8_wordFrom_239 : decode cX8_wordFrom 239 = .ok (.bipush 6, 2) := by decide +kernel
theorem dX8_wordFrom_241 : decode cX8_wordFrom 241 = .ok (.if_icmp .ne 49, 3) := by decide +kernel
theorem dX8_wordFrom_244 : decode cX8_wordFrom 244 = .ok (.aload_n 0, 1) := by decide +kernel
theorem dX8_wordFrom_245 : decode cX8_wordFrom 245 = .ok (.iload_n 1, 1) := by decide +kernel
theorem dX8_wordFrom_246 : decode cX8_wordFrom 246 = .ok (.bipush 98, 2) := by decide +kernel
theorem dX8_wordFrom_248 : decode cX8_wordFrom 248 = .ok (.bipush 101, 2) := by decide +kernel
theorem dX8_wordFrom_250 : decode cX8_wordFrom 250 = .ok (.bipush 97, 2) := by decide +kernel
theorem dX8_wordFrom_252 : decode cX8_wordFrom 252 = .ok (.bipush 99, 2) := by decide +kernel
theorem dX8_wordFrom_254 : decode cX8_wordFrom 254 = .ok (.invokevirtual 155, 3) := by decide +kernel
theorem dX8_wordFrom_257 : decode cX8_wordFrom 257 = .ok (.ifCond .eq 33, 3) := by decide +kernel
theorem dX8_wordFrom_260 : decode cX8_wordFrom 260 = .ok (.aload_n 0, 1) := by decide +kernel
theorem dX8_wordFrom_261 : decode cX8_wordFrom 261 = .ok (.getfield 23, 3) := by decide +kernel
theorem dX8_wordFrom_264 : decode cX8_wordFrom 264 = .ok (.iload_n 1, 1) := by decide +kernel
theorem dX8_wordFrom_265 : decode cX8_wordFrom 265 = .ok (.iconst 4, 1) := by decide +kernel
theorem dX8_wordFrom_266 : decode cX8_wordFrom 266 = .ok (.iadd, 1) := by decide +kernel
theorem dX8_wordFrom_267 : decode cX8_wordFrom 267 = .ok (.iaload, 1) := by decide +kernel
theorem dX8_wordFrom_268 : decode cX8_wordFrom 268 = .ok (.bipush 111, 2) := by decide +kernel
theorem dX8_wordFrom_270 : decode cX8_wordFrom 270 = .ok (.if_icmp .ne 20, 3) := by decide +kernel
theorem dX8_wordFrom_273 : decode cX8_wordFrom 273 = .ok (.aload_n 0, 1) := by decide +kernel
theorem dX8_wordFrom_274 : decode cX8_wordFrom 274 = .ok (.getfield 23, 3) := by decide +kernel
theorem dX8_wordFrom_277 : decode cX8_wordFrom 277 = .ok (.iload_n 1, 1) := by decide +kernel
theorem dX8_wordFrom_278 : decode cX8_wordFrom 278 = .ok (.iconst 5, 1) := by decide +kernel
theorem dX8_wordFrom_279 : decode cX8_wordFrom 279 = .ok (.iadd, 1) := by decide +kernel
theorem dX8_wordFrom_280 : decode cX8_wordFrom 280 = .ok (.iaload, 1) := by decide +kernel
theorem dX8_wordFrom_281 : decode cX8_wordFrom 281 = .ok (.bipush 110, 2) := by decide +kernel
theorem dX8_wordFrom_283 : decode cX8_wordFrom 283 = .ok (.if_icmp .ne 7, 3) := by decide +kernel
theorem dX8_wordFrom_286 : decode cX8_wordFrom 286 = .ok (.iconst 3, 1) := by decide +kernel
theorem dX8_wordFrom_287 : decode cX8_wordFrom 287 = .ok (.goto 4, 3) := by decide +kernel
theorem dX8_wordFrom_290 : decode cX8_wordFrom 290 = .ok (.iconst (-1), 1) := by decide +kernel
theorem dX8_wordFrom_291 : decode cX8_wordFrom 291 = .ok (.ireturn, 1) := by decide +kernel
theorem dX8_stopsHere_0 : decode cX8_stopsHere 0 = .ok (.aload_n 0, 1) := by decide +kernel
theorem dX8_stopsHere_1 : decode cX8_stopsHere 1 = .ok (.aload_n 0, 1) := by decide +kernel
theorem dX8_stopsHere_2 : decode cX8_stopsHere 2 = .ok (.getfield 149, 3) := by decide +kernel
theorem dX8_stopsHere_5 : decode cX8_stopsHere 5 = .ok (.putfield 159, 3) := by decide +kernel
theorem dX8_stopsHere_8 : decode cX8_stopsHere 8 = .ok (.iconst 0, 1) := by decide +kernel
theorem dX8_stopsHere_9 : decode cX8_stopsHere 9 = .ok (.ireturn, 1) := by decide +kernel
theorem dX8_number_0 : decode cX8_number 0 = .ok (.aload_n 0, 1) := by decide +kernel
theorem dX8_number_1 : decode cX8_number 1 = .ok (.invokevirtual 162, 3) := by decide +kernel
theorem dX8_number_4 : decode cX8_number 4 = .ok (.aload_n 0, 1) := by decide +kernel
theorem dX8_number_5 : decode cX8_number 5 = .ok (.invokevirtual 152, 3) := by decide +kernel
theorem dX8_number_8 : decode cX8_number 8 = .ok (.bipush 45, 2) := by decide +kernel
theorem dX8_number_10 : decode cX8_number 10 = .ok (.if_icmp .ne 7, 3) := by decide +kernel
theorem dX8_number_13 : decode cX8_number 13 = .ok (.iconst 1, 1) := by decide +kernel
theorem dX8_number_14 : decode cX8_number 14 = .ok (.goto 4, 3) := by decide +kernel
theorem dX8_number_17 : decode cX8_number 17 = .ok (.iconst 0, 1) := by decide +kernel
theorem dX8_number_18 : decode cX8_number 18 = .ok (.istore_n 3, 1) := by decide +kernel
theorem dX8_number_19 : decode cX8_number 19 = .ok (.iload_n 3, 1) := by decide +kernel
theorem dX8_number_20 : decode cX8_number 20 = .ok (.ifCond .eq 12, 3) := by decide +kernel
theorem dX8_number_23 : decode cX8_number 23 = .ok (.iload_n 1, 1) := by decide +kernel
theorem dX8_number_24 : decode cX8_number 24 = .ok (.ifCond .ne 8, 3) := by decide +kernel
theorem dX8_number_27 : decode cX8_number 27 = .ok (.aload_n 0, 1) := by decide +kernel
theorem dX8_number_28 : decode cX8_number 28 = .ok (.invokevirtual 165, 3) := by decide +kernel
theorem dX8_number_31 : decode cX8_number 31 = .ok (.ireturn, 1) := by decide +kernel
theorem dX8_number_32 : decode cX8_number 32 = .ok (.aload_n 0, 1) := by decide +kernel
theorem dX8_number_33 : decode cX8_number 33 = .ok (.dup, 1) := by decide +kernel
theorem dX8_number_34 : decode cX8_number 34 = .ok (.getfield 149, 3) := by decide +kernel
theorem dX8_number_37 : decode cX8_number 37 = .ok (.iload_n 3, 1) := by decide +kernel
theorem dX8_number_38 : decode cX8_number 38 = .ok (.ifCond .eq 7, 3) := by decide +kernel
theorem dX8_number_41 : decode cX8_number 41 = .ok (.iconst 1, 1) := by decide +kernel
theorem dX8_number_42 : decode cX8_number 42 = .ok (.goto 4, 3) := by decide +kernel
theorem dX8_number_45 : decode cX8_number 45 = .ok (.iconst 0, 1) := by decide +kernel
theorem dX8_number_46 : decode cX8_number 46 = .ok (.iadd, 1) := by decide +kernel
theorem dX8_number_47 : decode cX8_number 47 = .ok (.putfield 149, 3) := by decide +kernel
theorem dX8_number_50 : decode cX8_number 50 = .ok (.iconst 0, 1) := by decide +kernel
theorem dX8_number_51 : decode cX8_number 51 = .ok (.istore 4, 2) := by decide +kernel
theorem dX8_number_53 : decode cX8_number 53 = .ok (.iconst 0, 1) := by decide +kernel
theorem dX8_number_54 : decode cX8_number 54 = .ok (.istore 5, 2) := by decide +kernel
theorem dX8_number_56 : decode cX8_number 56 = .ok (.aload_n 0, 1) := by decide +kernel
theorem dX8_number_57 : decode cX8_number 57 = .ok (.invokevirtual 169, 3) := by decide +kernel
theorem dX8_number_60 : decode cX8_number 60 = .ok (.ifCond .eq 40, 3) := by decide +kernel
theorem dX8_number_63 : decode cX8_number 63 = .ok (.iload 5, 2) := by decide +kernel
theorem dX8_number_65 : decode cX8_number 65 = .ok (.iconst 3, 1) := by decide +kernel
theorem dX8_number_66 : decode cX8_number 66 = .ok (.if_icmp .ge 34, 3) := by decide +kernel
theorem dX8_number_69 : decode cX8_number 69 = .ok (.bipush 10, 2) := by decide +kernel
theorem dX8_number_71 : decode cX8_number 71 = .ok (.iload 4, 2) := by decide +kernel
theorem dX8_number_73 : decode cX8_number 73 = .ok (.imul, 1) := by decide +kernel
theorem dX8_number_74 : decode cX8_number 74 = .ok (.aload_n 0, 1) := by decide +kernel
theorem dX8_number_75 : decode cX8_number 75 = .ok (.invokevirtual 152, 3) := by decide +kernel
theorem dX8_number_78 : decode cX8_number 78 = .ok (.iadd, 1) := by decide +kernel
theorem dX8_number_79 : decode cX8_number 79 = .ok (.bipush 48, 2) := by decide +kernel
theorem dX8_number_81 : decode cX8_number 81 = .ok (.isub, 1) := by decide +kernel
theorem dX8_number_82 : decode cX8_number 82 = .ok (.istore 4, 2) := by decide +kernel
theorem dX8_number_84 : decode cX8_number 84 = .ok (.iinc 5 1, 3) := by decide +kernel
theorem dX8_number_87 : decode cX8_number 87 = .ok (.aload_n 0, 1) := by decide +kernel
theorem dX8_number_88 : decode cX8_number 88 = .ok (.dup, 1) := by decide +kernel
theorem dX8_number_89 : decode cX8_number 89 = .ok (.getfield 149, 3) := by decide +kernel
theorem dX8_number_92 : decode cX8_number 92 = .ok (.iconst 1, 1) := by decide +kernel
theorem dX8_number_93 : decode cX8_number 93 = .ok (.iadd, 1) := by decide +kernel
theorem dX8_number_94 : decode cX8_number 94 = .ok (.putfield 149, 3) := by decide +kernel
theorem dX8_number_97 : decode cX8_number 97 = .ok (.goto (-41), 3) := by decide +kernel
theorem dX8_number_100 : decode cX8_number 100 = .ok (.iload 5, 2) := by decide +kernel
theorem dX8_number_102 : decode cX8_number 102 = .ok (.ifCond .eq 10, 3) := by decide +kernel
theorem dX8_number_105 : decode cX8_number 105 = .ok (.aload_n 0, 1) := by decide +kernel
theorem dX8_number_106 : decode cX8_number 106 = .ok (.invokevirtual 169, 3) := by decide +kernel
theorem dX8_number_109 : decode cX8_number 109 = .ok (.ifCond .eq 8, 3) := by decide +kernel
theorem dX8_number_112 : decode cX8_number 112 = .ok (.aload_n 0, 1) := by decide +kernel
theorem dX8_number_113 : decode cX8_number 113 = .ok (.invokevirtual 165, 3) := by decide +kernel
theorem dX8_number_116 : decode cX8_number 116 = .ok (.ireturn, 1) := by decide +kernel
theorem dX8_number_117 : decode cX8_number 117 = .ok (.aload_n 0, 1) := by decide +kernel
theorem dX8_number_118 : decode cX8_number 118 = .ok (.getfield 29, 3) := by decide +kernel
theorem dX8_number_121 : decode cX8_number 121 = .ok (.iload_n 2, 1) := by decide +kernel
theorem dX8_number_122 : decode cX8_number 122 = .ok (.iload_n 3, 1) := by decide +kernel
theorem dX8_number_123 : decode cX8_number 123 = .ok (.ifCond .eq 9, 3) := by decide +kernel
theorem dX8_number_126 : decode cX8_number 126 = .ok (.iload 4, 2) := by decide +kernel
theorem dX8_number_128 : decode cX8_number 128 = .ok (.ineg, 1) := by decide +kernel
theorem dX8_number_129 : decode cX8_number 129 = .ok (.goto 5, 3) := by decide +kernel
theorem dX8_number_132 : decode cX8_number 132 = .ok (.iload 4, 2) := by decide +kernel
theorem dX8_number_134 : decode cX8_number 134 = .ok (.iastore, 1) := by decide +kernel
theorem dX8_number_135 : decode cX8_number 135 = .ok (.iconst 1, 1) := by decide +kernel
theorem dX8_number_136 : decode cX8_number 136 = .ok (.ireturn, 1) := by decide +kernel
theorem dX8_order_0 : decode cX8_order 0 = .ok (.aload_n 0, 1) := by decide +kernel
theorem dX8_order_1 : decode cX8_order 1 = .ok (.getfield 149, 3) := by decide +kernel
theorem dX8_order_4 : decode cX8_order 4 = .ok (.istore_n 1, 1) := by decide +kernel
theorem dX8_order_5 : decode cX8_order 5 = .ok (.aload_n 0, 1) := by decide +kernel
theorem dX8_order_6 : decode cX8_order 6 = .ok (.invokevirtual 152, 3) := by decide +kernel
theorem dX8_order_9 : decode cX8_order 9 = .ok (.bipush 97, 2) := by decide +kernel
theorem dX8_order_11 : decode cX8_order 11 = .ok (.bipush 122, 2) := by decide +kernel
theorem dX8_order_13 : decode cX8_order 13 = .ok (.invokestatic 45, 3) := by decide +kernel
theorem dX8_order_16 : decode cX8_order 16 = .ok (.ifCond .eq 16, 3) := by decide +kernel
theorem dX8_order_19 : decode cX8_order 19 = .ok (.aload_n 0, 1) := by decide +kernel
theorem dX8_order_20 : decode cX8_order 20 = .ok (.dup, 1) := by decide +kernel
theorem dX8_order_21 : decode cX8_order 21 = .ok (.getfield 149, 3) := by decide +kernel
theorem dX8_order_24 : decode cX8_order 24 = .ok (.iconst 1, 1) := by decide +kernel
theorem dX8_order_25 : decode cX8_order 25 = .ok (.iadd, 1) := by decide +kernel
theorem dX8_order_26 : decode cX8_order 26 = .ok (.putfield 149, 3) := by decide +kernel
theorem dX8_order_29 : decode cX8_order 29 = .ok (.goto (-24), 3) := by decide +kernel
theorem dX8_order_32 : decode cX8_order 32 = .ok (.aload_n 0, 1) := by decide +kernel
theorem dX8_order_33 : decode cX8_order 33 = .ok (.getfield 149, 3) := by decide +kernel
theorem dX8_order_36 : decode cX8_order 36 = .ok (.iload_n 1, 1) := by decide +kernel
theorem dX8_order_37 : decode cX8_order 37 = .ok (.if_icmp .ne 8, 3) := by decide +kernel
theorem dX8_order_40 : decode cX8_order 40 = .ok (.aload_n 0, 1) := by decide +kernel
theorem dX8_order_41 : decode cX8_order 41 = .ok (.invokevirtual 165, 3) := by decide +kernel
theorem dX8_order_44 : decode cX8_order 44 = .ok (.ireturn, 1) := by decide +kernel
theorem dX8_order_45 : decode cX8_order 45 = .ok (.aload_n 0, 1) := by decide +kernel
theorem dX8_order_46 : decode cX8_order 46 = .ok (.iload_n 1, 1) := by decide +kernel
theorem dX8_order_47 : decode cX8_order 47 = .ok (.invokevirtual 172, 3) := by decide +kernel
theorem dX8_order_50 : decode cX8_order 50 = .ok (.istore_n 2, 1) := by decide +kernel
theorem dX8_order_51 : decode cX8_order 51 = .ok (.iload_n 2, 1) := by decide +kernel
theorem dX8_order_52 : decode cX8_order 52 = .ok (.iconst (-1), 1) := by decide +kernel
theorem dX8_order_53 : decode cX8_order 53 = .ok (.if_icmp .ne 15, 3) := by decide +kernel
theorem dX8_order_56 : decode cX8_order 56 = .ok (.aload_n 0, 1) := by decide +kernel
theorem dX8_order_57 : decode cX8_order 57 = .ok (.iconst 1, 1) := by decide +kernel
theorem dX8_order_58 : decode cX8_order 58 = .ok (.putfield 175, 3) := by decide +kernel
theorem dX8_order_61 : decode cX8_order 61 = .ok (.aload_n 0, 1) := by decide +kernel
theorem dX8_order_62 : decode cX8_order 62 = .ok (.iload_n 1, 1) := by decide +kernel
theorem dX8_order_63 : decode cX8_order 63 = .ok (.putfield 159, 3) := by decide +kernel
theorem dX8_order_66 : decode cX8_order 66 = .ok (.iconst 0, 1) := by decide +kernel
theorem dX8_order_67 : decode cX8_order 67 = .ok (.ireturn, 1) := by decide +kernel
theorem dX8_order_68 : decode cX8_order 68 = .ok (.iload_n 2, 1) := by decide +kernel
theorem dX8_order_69 : decode cX8_order 69 = .ok (.iconst 1, 1) := by decide +kernel
theorem dX8_order_70 : decode cX8_order 70 = .ok (.if_icmp .eq 8, 3) := by decide +kernel
theorem dX8_order_73 : decode cX8_order 73 = .ok (.iload_n 2, 1) := by decide +kernel
theorem dX8_order_74 : decode cX8_order 74 = .ok (.iconst 2, 1) := by decide +kernel
theorem dX8_order_75 : decode cX8_order 75 = .ok (.if_icmp .ne 7, 3) := by decide +kernel
theorem dX8_order_78 : decode cX8_order 78 = .ok (.iconst 3, 1) := by decide +kernel
theorem dX8_order_79 : decode cX8_order 79 = .ok (.goto 4, 3) := by decide +kernel
theorem dX8_order_82 : decode cX8_order 82 = .ok (.iconst 1, 1) := by decide +kernel
theorem dX8_order_83 : decode cX8_order 83 = .ok (.istore_n 3, 1) := by decide +kernel
theorem dX8_order_84 : decode cX8_order 84 = .ok (.iconst 1, 1) := by decide +kernel
theorem dX8_order_85 : decode cX8_order 85 = .ok (.istore 4, 2) := by decide +kernel
theorem dX8_order_87 : decode cX8_order 87 = .ok (.iconst 0, 1) := by decide +kernel
theorem dX8_order_88 : decode cX8_order 88 = .ok (.istore 5, 2) := by decide +kernel
theorem dX8_order_90 : decode cX8_order 90 = .ok (.iload 5, 2) := by decide +kernel
theorem dX8_order_92 : decode cX8_order 92 = .ok (.iload_n 3, 1) := by decide +kernel
theorem dX8_order_93 : decode cX8_order 93 = .ok (.if_icmp .ge 45, 3) := by decide +kernel
theorem dX8_order_96 : decode cX8_order 96 = .ok (.iload 4, 2) := by decide +kernel
theorem dX8_order_98 : decode cX8_order 98 = .ok (.ifCond .eq 40, 3) := by decide +kernel
theorem dX8_order_101 : decode cX8_order 101 = .ok (.aload_n 0, 1) := by decide +kernel
theorem dX8_order_102 : decode cX8_order 102 = .ok (.iload_n 2, 1) := by decide +kernel
theorem dX8_order_103 : decode cX8_order 103 = .ok (.iconst 2, 1) := by decide +kernel
theorem dX8_order_104 : decode cX8_order 104 = .ok (.if_icmp .ne 13, 3) := by decide +kernel
theorem dX8_order_107 : decode cX8_order 107 = .ok (.iload 5, 2) := by decide +kernel
theorem dX8_order_109 : decode cX8_order 109 = .ok (.iconst 2, 1) := by decide +kernel
theorem dX8_order_110 : decode cX8_order 110 = .ok (.if_icmp .ne 7, 3) := by decide +kernel
theorem dX8_order_113 : decode cX8_order 113 = .ok (.iconst 1, 1) := by decide +kernel
theorem dX8_order_114 : decode cX8_order 114 = .ok (.goto 4, 3) := by decide +kernel
theorem dX8_order_117 : decode cX8_order 117 = .ok (.iconst 0, 1) := by decide +kernel
theorem dX8_order_118 : decode cX8_order 118 = .ok (.iconst 3, 1) := by decide +kernel
theorem dX8_order_119 : decode cX8_order 119 = .ok (.aload_n 0, 1) := by decide +kernel
theorem dX8_order_120 : decode cX8_order 120 = .ok (.getfield 179, 3) := by decide +kernel
theorem dX8_order_123 : decode cX8_order 123 = .ok (.imul, 1) := by decide +kernel
theorem dX8_order_124 : decode cX8_order 124 = .ok (.iload 5, 2) := by decide +kernel
theorem dX8_order_126 : decode cX8_order 126 = .ok (.iadd, 1) := by decide +kernel
theorem dX8_order_127 : decode cX8_order 127 = .ok (.invokevirtual 182, 3) := by decide +kernel
theorem dX8_order_130 : decode cX8_order 130 = .ok (.istore 4, 2) := by decide +kernel
theorem dX8_order_132 : decode cX8_order 132 = .ok (.iinc 5 1, 3) := by decide +kernel
theorem dX8_order_135 : decode cX8_order 135 = .ok (.goto (-45), 3) := by decide +kernel
theorem dX8_order_138 : decode cX8_order 138 = .ok (.iload 4, 2) := by decide +kernel
theorem dX8_order_140 : decode cX8_order 140 = .ok (.ifCond .ne 5, 3) := by decide +kernel
theorem dX8_order_143 : decode cX8_order 143 = .ok (.iconst 0, 1) := by decide +kernel
theorem dX8_order_144 : decode cX8_order 144 = .ok (.ireturn, 1) := by decide +kernel
theorem dX8_order_145 : decode cX8_order 145 = .ok (.aload_n 0, 1) := by decide +kernel
theorem dX8_order_146 : decode cX8_order 146 = .ok (.invokevirtual 162, 3) := by decide +kernel
theorem dX8_order_149 : decode cX8_order 149 = .ok (.aload_n 0, 1) := by decide +kernel
theorem dX8_order_150 : decode cX8_order 150 = .ok (.invokevirtual 152, 3) := by decide +kernel
theorem dX8_order_153 : decode cX8_order 153 = .ok (.bipush 59, 2) := by decide +kernel
theorem dX8_order_155 : decode cX8_order 155 = .ok (.if_icmp .eq 8, 3) := by decide +kernel
theorem dX8_order_158 : decode cX8_order 158 = .ok (.aload_n 0, 1) := by decide +kernel
theorem dX8_order_159 : decode cX8_order 159 = .ok (.invokevirtual 165, 3) := by decide +kernel
theorem dX8_order_162 : decode cX8_order 162 = .ok (.ireturn, 1) := by decide +kernel
theorem dX8_order_163 : decode cX8_order 163 = .ok (.aload_n 0, 1) := by decide +kernel
theorem dX8_order_164 : decode cX8_order 164 = .ok (.dup, 1) := by decide +kernel
theorem dX8_order_165 : decode cX8_order 165 = .ok (.getfield 149, 3) := by decide +kernel
theorem dX8_order_168 : decode cX8_order 168 = .ok (.iconst 1, 1) := by decide +kernel
theorem dX8_order_169 : decode cX8_order 169 = .ok (.iadd, 1) := by decide +kernel
theorem dX8_order_170 : decode cX8_order 170 = .ok (.putfield 149, 3) := by decide +kernel
theorem dX8_order_173 : decode cX8_order 173 = .ok (.aload_n 0, 1) := by decide +kernel
theorem dX8_order_174 : decode cX8_order 174 = .ok (.getfield 26, 3) := by decide +kernel
theorem dX8_order_177 : decode cX8_order 177 = .ok (.aload_n 0, 1) := by decide +kernel
theorem dX8_order_178 : decode cX8_order 178 = .ok (.getfield 179, 3) := by decide +kernel
theorem dX8_order_181 : decode cX8_order 181 = .ok (.iload_n 2, 1) := by decide +kernel
theorem dX8_order_182 : decode cX8_order 182 = .ok (.iastore, 1) := by decide +kernel
theorem dX8_order_183 : decode cX8_order 183 = .ok (.aload_n 0, 1) := by decide +kernel
theorem dX8_order_184 : decode cX8_order 184 = .ok (.dup, 1) := by decide +kernel
theorem dX8_order_185 : decode cX8_order 185 = .ok (.getfield 179, 3) := by decide +kernel
theorem dX8_order_188 : decode cX8_order 188 = .ok (.iconst 1, 1) := by decide +kernel
theorem dX8_order_189 : decode cX8_order 189 = .ok (.iadd, 1) := by decide +kernel
theorem dX8_order_190 : decode cX8_order 190 = .ok (.putfield 179, 3) := by decide +kernel
theorem dX8_order_193 : decode cX8_order 193 = .ok (.iconst 1, 1) := by decide +kernel
theorem dX8_order_194 : decode cX8_order 194 = .ok (.ireturn, 1) := by decide +kernel
theorem dX8_reads_0 : decode cX8_reads 0 = .ok (.aload_n 0, 1) := by decide +kernel
theorem dX8_reads_1 : decode cX8_reads 1 = .ok (.iconst 0, 1) := by decide +kernel
theorem dX8_reads_2 : decode cX8_reads 2 = .ok (.putfield 149, 3) := by decide +kernel
theorem dX8_reads_5 : decode cX8_reads 5 = .ok (.aload_n 0, 1) := by decide +kernel
theorem dX8_reads_6 : decode cX8_reads 6 = .ok (.iconst 0, 1) := by decide +kernel
theorem dX8_reads_7 : decode cX8_reads 7 = .ok (.putfield 179, 3) := by decide +kernel
theorem dX8_reads_10 : decode cX8_reads 10 = .ok (.aload_n 0, 1) := by decide +kernel
theorem dX8_reads_11 : decode cX8_reads 11 = .ok (.iconst 0, 1) := by decide +kernel
theorem dX8_reads_12 : decode cX8_reads 12 = .ok (.putfield 175, 3) := by decide +kernel
theorem dX8_reads_15 : decode cX8_reads 15 = .ok (.iconst 1, 1) := by decide +kernel
theorem dX8_reads_16 : decode cX8_reads 16 = .ok (.istore_n 1, 1) := by decide +kernel
theorem dX8_reads_17 : decode cX8_reads 17 = .ok (.aload_n 0, 1) := by decide +kernel
theorem dX8_reads_18 : decode cX8_reads 18 = .ok (.invokevirtual 162, 3) := by decide +kernel
theorem dX8_reads_21 : decode cX8_reads 21 = .ok (.iload_n 1, 1) := by decide +kernel
theorem dX8_reads_22 : decode cX8_reads 22 = .ok (.ifCond .eq 37, 3) := by decide +kernel
theorem dX8_reads_25 : decode cX8_reads 25 = .ok (.aload_n 0, 1) := by decide +kernel
theorem dX8_reads_26 : decode cX8_reads 26 = .ok (.getfield 179, 3) := by decide +kernel
theorem dX8_reads_29 : decode cX8_reads 29 = .ok (.ifCond .eq 14, 3) := by decide +kernel
theorem dX8_reads_32 : decode cX8_reads 32 = .ok (.aload_n 0, 1) := by decide +kernel
theorem dX8_reads_33 : decode cX8_reads 33 = .ok (.getfield 149, 3) := by decide +kernel
theorem dX8_reads_36 : decode cX8_reads 36 = .ok (.aload_n 0, 1) := by decide +kernel
theorem dX8_reads_37 : decode cX8_reads 37 = .ok (.getfield 143, 3) := by decide +kernel
theorem dX8_reads_40 : decode cX8_reads 40 = .ok (.if_icmp .ge 19, 3) := by decide +kernel
theorem dX8_reads_43 : decode cX8_reads 43 = .ok (.aload_n 0, 1) := by decide +kernel
theorem dX8_reads_44 : decode cX8_reads 44 = .ok (.invokevirtual 186, 3) := by decide +kernel
theorem dX8_reads_47 : decode cX8_reads 47 = .ok (.istore_n 1, 1) := by decide +kernel
theorem dX8_reads_48 : decode cX8_reads 48 = .ok (.iload_n 1, 1) := by decide +kernel
theorem dX8_reads_49 : decode cX8_reads 49 = .ok (.ifCond .eq (-28), 3) := by decide +kernel
theorem dX8_reads_52 : decode cX8_reads 52 = .ok (.aload_n 0, 1) := by decide +kernel
theorem dX8_reads_53 : decode cX8_reads 53 = .ok (.invokevirtual 162, 3) := by decide +kernel
theorem dX8_reads_56 : decode cX8_reads 56 = .ok (.goto (-35), 3) := by decide +kernel
theorem dX8_reads_59 : decode cX8_reads 59 = .ok (.iload_n 1, 1) := by decide +kernel
theorem dX8_reads_60 : decode cX8_reads 60 = .ok (.ireturn, 1) := by decide +kernel
theorem dX8_isDone_0 : decode cX8_isDone 0 = .ok (.aload_n 0, 1) := by decide +kernel
theorem dX8_isDone_1 : decode cX8_isDone 1 = .ok (.getfield 29, 3) := by decide +kernel
theorem dX8_isDone_4 : decode cX8_isDone 4 = .ok (.iconst 3, 1) := by decide +kernel
theorem dX8_isDone_5 : decode cX8_isDone 5 = .ok (.iload_n 1, 1) := by decide +kernel
theorem dX8_isDone_6 : decode cX8_isDone 6 = .ok (.imul, 1) := by decide +kernel
theorem dX8_isDone_7 : decode cX8_isDone 7 = .ok (.iaload, 1) := by decide +kernel
theorem dX8_isDone_8 : decode cX8_isDone 8 = .ok (.istore_n 2, 1) := by decide +kernel
theorem dX8_isDone_9 : decode cX8_isDone 9 = .ok (.aload_n 0, 1) := by decide +kernel
theorem dX8_isDone_10 : decode cX8_isDone 10 = .ok (.getfield 29, 3) := by decide +kernel
theorem dX8_isDone_13 : decode cX8_isDone 13 = .ok (.iconst 3, 1) := by decide +kernel
theorem dX8_isDone_14 : decode cX8_isDone 14 = .ok (.iload_n 1, 1) := by decide +kernel
theorem dX8_isDone_15 : decode cX8_isDone 15 = .ok (.imul, 1) := by decide +kernel
theorem dX8_isDone_16 : decode cX8_isDone 16 = .ok (.iconst 1, 1) := by decide +kernel
theorem dX8_isDone_17 : decode cX8_isDone 17 = .ok (.iadd, 1) := by decide +kernel
theorem dX8_isDone_18 : decode cX8_isDone 18 = .ok (.iaload, 1) := by decide +kernel
theorem dX8_isDone_19 : decode cX8_isDone 19 = .ok (.istore_n 3, 1) := by decide +kernel
theorem dX8_isDone_20 : decode cX8_isDone 20 = .ok (.aload_n 0, 1) := by decide +kernel
theorem dX8_isDone_21 : decode cX8_isDone 21 = .ok (.getfield 29, 3) := by decide +kernel
theorem dX8_isDone_24 : decode cX8_isDone 24 = .ok (.iconst 3, 1) := by decide +kernel
theorem dX8_isDone_25 : decode cX8_isDone 25 = .ok (.iload_n 1, 1) := by decide +kernel
theorem dX8_isDone_26 : decode cX8_isDone 26 = .ok (.imul, 1) := by decide +kernel
theorem dX8_isDone_27 : decode cX8_isDone 27 = .ok (.iconst 2, 1) := by decide +kernel
theorem dX8_isDone_28 : decode cX8_isDone 28 = .ok (.iadd, 1) := by decide +kernel
theorem dX8_isDone_29 : decode cX8_isDone 29 = .ok (.iaload, 1) := by decide +kernel
theorem dX8_isDone_30 : decode cX8_isDone 30 = .ok (.istore 4, 2) := by decide +kernel
theorem dX8_isDone_32 : decode cX8_isDone 32 = .ok (.aload_n 0, 1) := by decide +kernel
theorem dX8_isDone_33 : decode cX8_isDone 33 = .ok (.getfield 26, 3) := by decide +kernel
theorem dX8_isDone_36 : decode cX8_isDone 36 = .ok (.iload_n 1, 1) := by decide +kernel
theorem dX8_isDone_37 : decode cX8_isDone 37 = .ok (.iaload, 1) := by decide +kernel
theorem dX8_isDone_38 : decode cX8_isDone 38 = .ok (.istore 5, 2) := by decide +kernel
theorem dX8_isDone_40 : decode cX8_isDone 40 = .ok (.iconst 0, 1) := by decide +kernel
theorem dX8_isDone_41 : decode cX8_isDone 41 = .ok (.istore 6, 2) := by decide +kernel
theorem dX8_isDone_43 : decode cX8_isDone 43 = .ok (.iconst 0, 1) := by decide +kernel
theorem dX8_isDone_44 : decode cX8_isDone 44 = .ok (.istore 7, 2) := by decide +kernel
theorem dX8_isDone_46 : decode cX8_isDone 46 = .ok (.iload 5, 2) := by decide +kernel
theorem dX8_isDone_48 : decode cX8_isDone 48 = .ok (.tableswitch 125 0 3 #[32, 58, 58, 98], 32) := by decide +kernel
theorem dX8_isDone_80 : decode cX8_isDone 80 = .ok (.aload_n 0, 1) := by decide +kernel
theorem dX8_isDone_81 : decode cX8_isDone 81 = .ok (.iload_n 2, 1) := by decide +kernel
theorem dX8_isDone_82 : decode cX8_isDone 82 = .ok (.invokevirtual 56, 3) := by decide +kernel
theorem dX8_isDone_85 : decode cX8_isDone 85 = .ok (.istore 6, 2) := by decide +kernel
theorem dX8_isDone_87 : decode cX8_isDone 87 = .ok (.iload 6, 2) := by decide +kernel
theorem dX8_isDone_89 : decode cX8_isDone 89 = .ok (.ifCond .eq 11, 3) := by decide +kernel
theorem dX8_isDone_92 : decode cX8_isDone 92 = .ok (.aload_n 0, 1) := by decide +kernel
theorem dX8_isDone_93 : decode cX8_isDone 93 = .ok (.iload_n 2, 1) := by decide +kernel
theorem dX8_isDone_94 : decode cX8_isDone 94 = .ok (.invokevirtual 67, 3) := by decide +kernel
theorem dX8_isDone_97 : decode cX8_isDone 97 = .ok (.goto 4, 3) := by decide +kernel
theorem dX8_isDone_100 : decode cX8_isDone 100 = .ok (.iconst 0, 1) := by decide +kernel
theorem dX8_isDone_101 : decode cX8_isDone 101 = .ok (.istore 7, 2) := by decide +kernel
theorem dX8_isDone_103 : decode cX8_isDone 103 = .ok (.goto 100, 3) := by decide +kernel
theorem dX8_isDone_106 : decode cX8_isDone 106 = .ok (.aload_n 0, 1) := by decide +kernel
theorem dX8_isDone_107 : decode cX8_isDone 107 = .ok (.iload 5, 2) := by decide +kernel
theorem dX8_isDone_109 : decode cX8_isDone 109 = .ok (.iconst 1, 1) := by decide +kernel
theorem dX8_isDone_110 : decode cX8_isDone 110 = .ok (.isub, 1) := by decide +kernel
theorem dX8_isDone_111 : decode cX8_isDone 111 = .ok (.iload_n 2, 1) := by decide +kernel
theorem dX8_isDone_112 : decode cX8_isDone 112 = .ok (.iload_n 3, 1) := by decide +kernel
theorem dX8_isDone_113 : decode cX8_isDone 113 = .ok (.iload 4, 2) := by decide +kernel
theorem dX8_isDone_115 : decode cX8_isDone 115 = .ok (.invokevirtual 73, 3) := by decide +kernel
theorem dX8_isDone_118 : decode cX8_isDone 118 = .ok (.istore 6, 2) := by decide +kernel
theorem dX8_isDone_120 : decode cX8_isDone 120 = .ok (.iload 6, 2) := by decide +kernel
theorem dX8_isDone_122 : decode cX8_isDone 122 = .ok (.ifCond .eq 18, 3) := by decide +kernel
theorem dX8_isDone_125 : decode cX8_isDone 125 = .ok (.aload_n 0, 1) := by decide +kernel
theorem dX8_isDone_126 : decode cX8_isDone 126 = .ok (.iload 5, 2) := by decide +kernel
theorem dX8_isDone_128 : decode cX8_isDone 128 = .ok (.iconst 1, 1) := by decide +kernel
theorem dX8_isDone_129 : decode cX8_isDone 129 = .ok (.isub, 1) := by decide +kernel
theorem dX8_isDone_130 : decode cX8_isDone 130 = .ok (.iload_n 2, 1) := by decide +kernel
theorem dX8_isDone_131 : decode cX8_isDone 131 = .ok (.iload_n 3, 1) := by decide +kernel
theorem dX8_isDone_132 : decode cX8_isDone 132 = .ok (.iload 4, 2) := by decide +kernel
theorem dX8_isDone_134 : decode cX8_isDone 134 = .ok (.invokevirtual 77, 3) := by decide +kernel
theorem dX8_isDone_137 : decode cX8_isDone 137 = .ok (.goto 4, 3) := by decide +kernel
theorem dX8_isDone_140 : decode cX8_isDone 140 = .ok (.iconst 0, 1) := by decide +kernel
theorem dX8_isDone_141 : decode cX8_isDone 141 = .ok (.istore 7, 2) := by decide +kernel
theorem dX8_isDone_143 : decode cX8_isDone 143 = .ok (.goto 60, 3) := by decide +kernel
theorem dX8_isDone_146 : decode cX8_isDone 146 = .ok (.aload_n 0, 1) := by decide +kernel
theorem dX8_isDone_147 : decode cX8_isDone 147 = .ok (.iload_n 2, 1) := by decide +kernel
theorem dX8_isDone_148 : decode cX8_isDone 148 = .ok (.invokevirtual 70, 3) := by decide +kernel
theorem dX8_isDone_151 : decode cX8_isDone 151 = .ok (.istore 6, 2) := by decide +kernel
theorem dX8_isDone_153 : decode cX8_isDone 153 = .ok (.iload 6, 2) := by decide +kernel
theorem dX8_isDone_155 : decode cX8_isDone 155 = .ok (.ifCond .eq 12, 3) := by decide +kernel
theorem dX8_isDone_158 : decode cX8_isDone 158 = .ok (.aload_n 0, 1) := by decide +kernel
theorem dX8_isDone_159 : decode cX8_isDone 159 = .ok (.iload_n 2, 1) := by decide +kernel
theorem dX8_isDone_160 : decode cX8_isDone 160 = .ok (.iconst 1, 1) := by decide +kernel
theorem dX8_isDone_161 : decode cX8_isDone 161 = .ok (.invokevirtual 81, 3) := by decide +kernel
theorem dX8_isDone_164 : decode cX8_isDone 164 = .ok (.goto 4, 3) := by decide +kernel
theorem dX8_isDone_167 : decode cX8_isDone 167 = .ok (.iconst 0, 1) := by decide +kernel
theorem dX8_isDone_168 : decode cX8_isDone 168 = .ok (.istore 7, 2) := by decide +kernel
theorem dX8_isDone_170 : decode cX8_isDone 170 = .ok (.goto 33, 3) := by decide +kernel
theorem dX8_isDone_173 : decode cX8_isDone 173 = .ok (.iload 5, 2) := by decide +kernel
theorem dX8_isDone_175 : decode cX8_isDone 175 = .ok (.iconst 4, 1) := by decide +kernel
theorem dX8_isDone_176 : decode cX8_isDone 176 = .ok (.isub, 1) := by decide +kernel
theorem dX8_isDone_177 : decode cX8_isDone 177 = .ok (.iload_n 2, 1) := by decide +kernel
theorem dX8_isDone_178 : decode cX8_isDone 178 = .ok (.invokestatic 85, 3) := by decide +kernel
theorem dX8_isDone_181 : decode cX8_isDone 181 = .ok (.istore 6, 2) := by decide +kernel
theorem dX8_isDone_183 : decode cX8_isDone 183 = .ok (.iload 6, 2) := by decide +kernel
theorem dX8_isDone_185 : decode cX8_isDone 185 = .ok (.ifCond .eq 15, 3) := by decide +kernel
theorem dX8_isDone_188 : decode cX8_isDone 188 = .ok (.aload_n 0, 1) := by decide +kernel
theorem dX8_isDone_189 : decode cX8_isDone 189 = .ok (.iload 5, 2) := by decide +kernel
theorem dX8_isDone_191 : decode cX8_isDone 191 = .ok (.iconst 4, 1) := by decide +kernel
theorem dX8_isDone_192 : decode cX8_isDone 192 = .ok (.isub, 1) := by decide +kernel
theorem dX8_isDone_193 : decode cX8_isDone 193 = .ok (.iload_n 2, 1) := by decide +kernel
theorem dX8_isDone_194 : decode cX8_isDone 194 = .ok (.invokevirtual 89, 3) := by decide +kernel
theorem dX8_isDone_197 : decode cX8_isDone 197 = .ok (.goto 4, 3) := by decide +kernel
theorem dX8_isDone_200 : decode cX8_isDone 200 = .ok (.iconst 0, 1) := by decide +kernel
theorem dX8_isDone_201 : decode cX8_isDone 201 = .ok (.istore 7, 2) := by decide +kernel
theorem dX8_isDone_203 : decode cX8_isDone 203 = .ok (.iload 6, 2) := by decide +kernel
theorem dX8_isDone_205 : decode cX8_isDone 205 = .ok (.ifCond .eq 15, 3) := by decide +kernel
theorem dX8_isDone_208 : decode cX8_isDone 208 = .ok (.iload 7, 2) := by decide +kernel
theorem dX8_isDone_210 : decode cX8_isDone 210 = .ok (.sipush (-1000), 3) := by decide +kernel
theorem dX8_isDone_213 : decode cX8_isDone 213 = .ok (.if_icmp .le 7, 3) := by decide +kernel
theorem dX8_isDone_216 : decode cX8_isDone 216 = .ok (.iconst 1, 1) := by decide +kernel
theorem dX8_isDone_217 : decode cX8_isDone 217 = .ok (.goto 4, 3) := by decide +kernel
theorem dX8_isDone_220 : decode cX8_isDone 220 = .ok (.iconst 0, 1) := by decide +kernel
theorem dX8_isDone_221 : decode cX8_isDone 221 = .ok (.ireturn, 1) := by decide +kernel
theorem dX8_does_0 : decode cX8_does 0 = .ok (.aload_n 0, 1) := by decide +kernel
theorem dX8_does_1 : decode cX8_does 1 = .ok (.invokevirtual 189, 3) := by decide +kernel
theorem dX8_does_4 : decode cX8_does 4 = .ok (.ifCond .ne 35, 3) := by decide +kernel
theorem dX8_does_7 : decode cX8_does 7 = .ok (.aload_n 0, 1) := by decide +kernel
theorem dX8_does_8 : decode cX8_does 8 = .ok (.aload_n 0, 1) := by decide +kernel
theorem dX8_does_9 : decode cX8_does 9 = .ok (.getfield 175, 3) := by decide +kernel
theorem dX8_does_12 : decode cX8_does 12 = .ok (.ifCond .eq 7, 3) := by decide +kernel
theorem dX8_does_15 : decode cX8_does 15 = .ok (.iconst 1, 1) := by decide +kernel
theorem dX8_does_16 : decode cX8_does 16 = .ok (.goto 4, 3) := by decide +kernel
theorem dX8_does_19 : decode cX8_does 19 = .ok (.iconst 2, 1) := by decide +kernel
theorem dX8_does_20 : decode cX8_does 20 = .ok (.putfield 192, 3) := by decide +kernel
theorem dX8_does_23 : decode cX8_does 23 = .ok (.aload_n 0, 1) := by decide +kernel
theorem dX8_does_24 : decode cX8_does 24 = .ok (.aload_n 0, 1) := by decide +kernel
theorem dX8_does_25 : decode cX8_does 25 = .ok (.getfield 159, 3) := by decide +kernel
theorem dX8_does_28 : decode cX8_does 28 = .ok (.putfield 16, 3) := by decide +kernel
theorem dX8_does_31 : decode cX8_does 31 = .ok (.bipush (-10), 2) := by decide +kernel
theorem dX8_does_33 : decode cX8_does 33 = .ok (.aload_n 0, 1) := by decide +kernel
theorem dX8_does_34 : decode cX8_does 34 = .ok (.getfield 159, 3) := by decide +kernel
theorem dX8_does_37 : decode cX8_does 37 = .ok (.isub, 1) := by decide +kernel
theorem dX8_does_38 : decode cX8_does 38 = .ok (.ireturn, 1) := by decide +kernel
theorem dX8_does_39 : decode cX8_does 39 = .ok (.aload_n 0, 1) := by decide +kernel
theorem dX8_does_40 : decode cX8_does 40 = .ok (.bipush 6, 2) := by decide +kernel
theorem dX8_does_42 : decode cX8_does 42 = .ok (.invokevirtual 41, 3) := by decide +kernel
theorem dX8_does_45 : decode cX8_does 45 = .ok (.iconst 0, 1) := by decide +kernel
theorem dX8_does_46 : decode cX8_does 46 = .ok (.istore_n 1, 1) := by decide +kernel
theorem dX8_does_47 : decode cX8_does 47 = .ok (.iload_n 1, 1) := by decide +kernel
theorem dX8_does_48 : decode cX8_does 48 = .ok (.aload_n 0, 1) := by decide +kernel
theorem dX8_does_49 : decode cX8_does 49 = .ok (.getfield 179, 3) := by decide +kernel
theorem dX8_does_52 : decode cX8_does 52 = .ok (.if_icmp .ge 39, 3) := by decide +kernel
theorem dX8_does_55 : decode cX8_does 55 = .ok (.aload_n 0, 1) := by decide +kernel
theorem dX8_does_56 : decode cX8_does 56 = .ok (.iload_n 1, 1) := by decide +kernel
theorem dX8_does_57 : decode cX8_does 57 = .ok (.invokevirtual 195, 3) := by decide +kernel
theorem dX8_does_60 : decode cX8_does 60 = .ok (.ifCond .ne 25, 3) := by decide +kernel
theorem dX8_does_63 : decode cX8_does 63 = .ok (.aload_n 0, 1) := by decide +kernel
theorem dX8_does_64 : decode cX8_does 64 = .ok (.bipush 6, 2) := by decide +kernel
theorem dX8_does_66 : decode cX8_does 66 = .ok (.invokevirtual 198, 3) := by decide +kernel
theorem dX8_does_69 : decode cX8_does 69 = .ok (.aload_n 0, 1) := by decide +kernel
theorem dX8_does_70 : decode cX8_does 70 = .ok (.iconst 3, 1) := by decide +kernel
theorem dX8_does_71 : decode cX8_does 71 = .ok (.putfield 192, 3) := by decide +kernel
theorem dX8_does_74 : decode cX8_does 74 = .ok (.aload_n 0, 1) := by decide +kernel
theorem dX8_does_75 : decode cX8_does 75 = .ok (.iload_n 1, 1) := by decide +kernel
theorem dX8_does_76 : decode cX8_does 76 = .ok (.putfield 16, 3) := by decide +kernel
theorem dX8_does_79 : decode cX8_does 79 = .ok (.sipush (-1000), 3) := by decide +kernel
theorem dX8_does_82 : decode cX8_does 82 = .ok (.iload_n 1, 1) := by decide +kernel
theorem dX8_does_83 : decode cX8_does 83 = .ok (.isub, 1) := by decide +kernel
theorem dX8_does_84 : decode cX8_does 84 = .ok (.ireturn, 1) := by decide +kernel
theorem dX8_does_85 : decode cX8_does 85 = .ok (.iinc 1 1, 3) := by decide +kernel
theorem dX8_does_88 : decode cX8_does 88 = .ok (.goto (-41), 3) := by decide +kernel
theorem dX8_does_91 : decode cX8_does 91 = .ok (.aload_n 0, 1) := by decide +kernel
theorem dX8_does_92 : decode cX8_does 92 = .ok (.invokevirtual 201, 3) := by decide +kernel
theorem dX8_does_95 : decode cX8_does 95 = .ok (.aload_n 0, 1) := by decide +kernel
theorem dX8_does_96 : decode cX8_does 96 = .ok (.getfield 179, 3) := by decide +kernel
theorem dX8_does_99 : decode cX8_does 99 = .ok (.ireturn, 1) := by decide +kernel
theorem dX8_leaves_0 : decode cX8_leaves 0 = .ok (.aload_n 0, 1) := by decide +kernel
theorem dX8_leaves_1 : decode cX8_leaves 1 = .ok (.getfield 38, 3) := by decide +kernel
theorem dX8_leaves_4 : decode cX8_leaves 4 = .ok (.bipush 6, 2) := by decide +kernel
theorem dX8_leaves_6 : decode cX8_leaves 6 = .ok (.if_icmp .ne 44, 3) := by decide +kernel
theorem dX8_leaves_9 : decode cX8_leaves 9 = .ok (.iconst 0, 1) := by decide +kernel
theorem dX8_leaves_10 : decode cX8_leaves 10 = .ok (.istore_n 1, 1) := by decide +kernel
theorem dX8_leaves_11 : decode cX8_leaves 11 = .ok (.iload_n 1, 1) := by decide +kernel
theorem dX8_leaves_12 : decode cX8_leaves 12 = .ok (.sipush 3080, 3) := by decide +kernel
theorem dX8_leaves_15 : decode cX8_leaves 15 = .ok (.if_icmp .ge 25, 3) := by decide +kernel
theorem dX8_leaves_18 : decode cX8_leaves 18 = .ok (.aload_n 0, 1) := by decide +kernel
theorem dX8_leaves_19 : decode cX8_leaves 19 = .ok (.getfield 13, 3) := by decide +kernel
theorem dX8_leaves_22 : decode cX8_leaves 22 = .ok (.iload_n 1, 1) := by decide +kernel
theorem dX8_leaves_23 : decode cX8_leaves 23 = .ok (.aload_n 0, 1) := by decide +kernel
theorem dX8_leaves_24 : decode cX8_leaves 24 = .ok (.getfield 13, 3) := by decide +kernel
theorem dX8_leaves_27 : decode cX8_leaves 27 = .ok (.iload_n 1, 1) := by decide +kernel
theorem dX8_leaves_28 : decode cX8_leaves 28 = .ok (.sipush 616, 3) := by decide +kernel
theorem dX8_leaves_31 : decode cX8_leaves 31 = .ok (.iadd, 1) := by decide +kernel
theorem dX8_leaves_32 : decode cX8_leaves 32 = .ok (.iaload, 1) := by decide +kernel
theorem dX8_leaves_33 : decode cX8_leaves 33 = .ok (.iastore, 1) := by decide +kernel
theorem dX8_leaves_34 : decode cX8_leaves 34 = .ok (.iinc 1 1, 3) := by decide +kernel
theorem dX8_leaves_37 : decode cX8_leaves 37 = .ok (.goto (-26), 3) := by decide +kernel
theorem dX8_leaves_40 : decode cX8_leaves 40 = .ok (.aload_n 0, 1) := by decide +kernel
theorem dX8_leaves_41 : decode cX8_leaves 41 = .ok (.dup, 1) := by decide +kernel
theorem dX8_leaves_42 : decode cX8_leaves 42 = .ok (.getfield 38, 3) := by decide +kernel
theorem dX8_leaves_45 : decode cX8_leaves 45 = .ok (.iconst 1, 1) := by decide +kernel
theorem dX8_leaves_46 : decode cX8_leaves 46 = .ok (.isub, 1) := by decide +kernel
theorem dX8_leaves_47 : decode cX8_leaves 47 = .ok (.putfield 38, 3) := by decide +kernel
theorem dX8_leaves_50 : decode cX8_leaves 50 = .ok (.iconst 0, 1) := by decide +kernel
theorem dX8_leaves_51 : decode cX8_leaves 51 = .ok (.istore_n 1, 1) := by decide +kernel
theorem dX8_leaves_52 : decode cX8_leaves 52 = .ok (.iload_n 1, 1) := by decide +kernel
theorem dX8_leaves_53 : decode cX8_leaves 53 = .ok (.sipush 616, 3) := by decide +kernel
theorem dX8_leaves_56 : decode cX8_leaves 56 = .ok (.if_icmp .ge 34, 3) := by decide +kernel
theorem dX8_leaves_59 : decode cX8_leaves 59 = .ok (.aload_n 0, 1) := by decide +kernel
theorem dX8_leaves_60 : decode cX8_leaves 60 = .ok (.getfield 13, 3) := by decide +kernel
theorem dX8_leaves_63 : decode cX8_leaves 63 = .ok (.sipush 616, 3) := by decide +kernel
theorem dX8_leaves_66 : decode cX8_leaves 66 = .ok (.aload_n 0, 1) := by decide +kernel
theorem dX8_leaves_67 : decode cX8_leaves 67 = .ok (.getfield 38, 3) := by decide +kernel
theorem dX8_leaves_70 : decode cX8_leaves 70 = .ok (.imul, 1) := by decide +kernel
theorem dX8_leaves_71 : decode cX8_leaves 71 = .ok (.iload_n 1, 1) := by decide +kernel
theorem dX8_leaves_72 : decode cX8_leaves 72 = .ok (.iadd, 1) := by decide +kernel
theorem dX8_leaves_73 : decode cX8_leaves 73 = .ok (.aload_n 0, 1) := by decide +kernel
theorem dX8_leaves_74 : decode cX8_leaves 74 = .ok (.getfield 13, 3) := by decide +kernel
theorem dX8_leaves_77 : decode cX8_leaves 77 = .ok (.sipush 3696, 3) := by decide +kernel
theorem dX8_leaves_80 : decode cX8_leaves 80 = .ok (.iload_n 1, 1) := by decide +kernel
theorem dX8_leaves_81 : decode cX8_leaves 81 = .ok (.iadd, 1) := by decide +kernel
theorem dX8_leaves_82 : decode cX8_leaves 82 = .ok (.iaload, 1) := by decide +kernel
theorem dX8_leaves_83 : decode cX8_leaves 83 = .ok (.iastore, 1) := by decide +kernel
theorem dX8_leaves_84 : decode cX8_leaves 84 = .ok (.iinc 1 1, 3) := by decide +kernel
theorem dX8_leaves_87 : decode cX8_leaves 87 = .ok (.goto (-35), 3) := by decide +kernel
theorem dX8_leaves_90 : decode cX8_leaves 90 = .ok (.aload_n 0, 1) := by decide +kernel
theorem dX8_leaves_91 : decode cX8_leaves 91 = .ok (.dup, 1) := by decide +kernel
theorem dX8_leaves_92 : decode cX8_leaves 92 = .ok (.getfield 38, 3) := by decide +kernel
theorem dX8_leaves_95 : decode cX8_leaves 95 = .ok (.iconst 1, 1) := by decide +kernel
theorem dX8_leaves_96 : decode cX8_leaves 96 = .ok (.iadd, 1) := by decide +kernel
theorem dX8_leaves_97 : decode cX8_leaves 97 = .ok (.putfield 38, 3) := by decide +kernel
theorem dX8_leaves_100 : decode cX8_leaves 100 = .ok (.return_, 1) := by decide +kernel
theorem dX8_tellWhy_0 : decode cX8_tellWhy 0 = .ok (.iload_n 1, 1) := by decide +kernel
theorem dX8_tellWhy_1 : decode cX8_tellWhy 1 = .ok (.ifCond .ne 10, 3) := by decide +kernel
theorem dX8_tellWhy_4 : decode cX8_tellWhy 4 = .ok (.aload_n 0, 1) := by decide +kernel
theorem dX8_tellWhy_5 : decode cX8_tellWhy 5 = .ok (.getfield 192, 3) := by decide +kernel
theorem dX8_tellWhy_8 : decode cX8_tellWhy 8 = .ok (.goto 7, 3) := by decide +kernel
theorem dX8_tellWhy_11 : decode cX8_tellWhy 11 = .ok (.aload_n 0, 1) := by decide +kernel
theorem dX8_tellWhy_12 : decode cX8_tellWhy 12 = .ok (.getfield 16, 3) := by decide +kernel
theorem dX8_tellWhy_15 : decode cX8_tellWhy 15 = .ok (.ireturn, 1) := by decide +kernel
theorem dX8_why_0 : decode cX8_why 0 = .ok (.iload_n 1, 1) := by decide +kernel
theorem dX8_why_1 : decode cX8_why 1 = .ok (.iconst 0, 1) := by decide +kernel
theorem dX8_why_2 : decode cX8_why 2 = .ok (.iconst 1, 1) := by decide +kernel
theorem dX8_why_3 : decode cX8_why 3 = .ok (.invokestatic 45, 3) := by decide +kernel
theorem dX8_why_6 : decode cX8_why 6 = .ok (.ifCond .eq 11, 3) := by decide +kernel
theorem dX8_why_9 : decode cX8_why 9 = .ok (.aload_n 0, 1) := by decide +kernel
theorem dX8_why_10 : decode cX8_why 10 = .ok (.iload_n 1, 1) := by decide +kernel
theorem dX8_why_11 : decode cX8_why 11 = .ok (.invokevirtual 204, 3) := by decide +kernel
theorem dX8_why_14 : decode cX8_why 14 = .ok (.goto 7, 3) := by decide +kernel
theorem dX8_why_17 : decode cX8_why 17 = .ok (.aload_n 0, 1) := by decide +kernel
theorem dX8_why_18 : decode cX8_why 18 = .ok (.invokevirtual 60, 3) := by decide +kernel
theorem dX8_why_21 : decode cX8_why 21 = .ok (.ireturn, 1) := by decide +kernel
theorem dX8_back_0 : decode cX8_back 0 = .ok (.aload_n 0, 1) := by decide +kernel
theorem dX8_back_1 : decode cX8_back 1 = .ok (.getfield 38, 3) := by decide +kernel
theorem dX8_back_4 : decode cX8_back 4 = .ok (.ifCond .ne 8, 3) := by decide +kernel
theorem dX8_back_7 : decode cX8_back 7 = .ok (.aload_n 0, 1) := by decide +kernel
theorem dX8_back_8 : decode cX8_back 8 = .ok (.invokevirtual 137, 3) := by decide +kernel
theorem dX8_back_11 : decode cX8_back 11 = .ok (.ireturn, 1) := by decide +kernel
theorem dX8_back_12 : decode cX8_back 12 = .ok (.aload_n 0, 1) := by decide +kernel
theorem dX8_back_13 : decode cX8_back 13 = .ok (.dup, 1) := by decide +kernel
theorem dX8_back_14 : decode cX8_back 14 = .ok (.getfield 38, 3) := by decide +kernel
theorem dX8_back_17 : decode cX8_back 17 = .ok (.iconst 1, 1) := by decide +kernel
theorem dX8_back_18 : decode cX8_back 18 = .ok (.isub, 1) := by decide +kernel
theorem dX8_back_19 : decode cX8_back 19 = .ok (.putfield 38, 3) := by decide +kernel
theorem dX8_back_22 : decode cX8_back 22 = .ok (.aload_n 0, 1) := by decide +kernel
theorem dX8_back_23 : decode cX8_back 23 = .ok (.aload_n 0, 1) := by decide +kernel
theorem dX8_back_24 : decode cX8_back 24 = .ok (.getfield 38, 3) := by decide +kernel
theorem dX8_back_27 : decode cX8_back 27 = .ok (.invokevirtual 198, 3) := by decide +kernel
theorem dX8_back_30 : decode cX8_back 30 = .ok (.aload_n 0, 1) := by decide +kernel
theorem dX8_back_31 : decode cX8_back 31 = .ok (.getfield 38, 3) := by decide +kernel
theorem dX8_back_34 : decode cX8_back 34 = .ok (.ireturn, 1) := by decide +kernel
theorem dX8_tell_0 : decode cX8_tell 0 = .ok (.iload_n 1, 1) := by decide +kernel
theorem dX8_tell_1 : decode cX8_tell 1 = .ok (.tableswitch 99 0 12 #[67, 72, 77, 82, 99, 99, 99, 99, 99, 99, 99, 89, 94], 67) := by decide +kernel
theorem dX8_tell_68 : decode cX8_tell 68 = .ok (.aload_n 0, 1) := by decide +kernel
theorem dX8_tell_69 : decode cX8_tell 69 = .ok (.getfield 32, 3) := by decide +kernel
theorem dX8_tell_72 : decode cX8_tell 72 = .ok (.ireturn, 1) := by decide +kernel
theorem dX8_tell_73 : decode cX8_tell 73 = .ok (.aload_n 0, 1) := by decide +kernel
theorem dX8_tell_74 : decode cX8_tell 74 = .ok (.getfield 35, 3) := by decide +kernel
theorem dX8_tell_77 : decode cX8_tell 77 = .ok (.ireturn, 1) := by decide +kernel
theorem dX8_tell_78 : decode cX8_tell 78 = .ok (.aload_n 0, 1) := by decide +kernel
theorem dX8_tell_79 : decode cX8_tell 79 = .ok (.getfield 146, 3) := by decide +kernel
theorem dX8_tell_82 : decode cX8_tell 82 = .ok (.ireturn, 1) := by decide +kernel
theorem dX8_tell_83 : decode cX8_tell 83 = .ok (.aload_n 0, 1) := by decide +kernel
theorem dX8_tell_84 : decode cX8_tell 84 = .ok (.getfield 7, 3) := by decide +kernel
theorem dX8_tell_87 : decode cX8_tell 87 = .ok (.iconst 0, 1) := by decide +kernel
theorem dX8_tell_88 : decode cX8_tell 88 = .ok (.iaload, 1) := by decide +kernel
theorem dX8_tell_89 : decode cX8_tell 89 = .ok (.ireturn, 1) := by decide +kernel
theorem dX8_tell_90 : decode cX8_tell 90 = .ok (.aload_n 0, 1) := by decide +kernel
theorem dX8_tell_91 : decode cX8_tell 91 = .ok (.getfield 143, 3) := by decide +kernel
theorem dX8_tell_94 : decode cX8_tell 94 = .ok (.ireturn, 1) := by decide +kernel
theorem dX8_tell_95 : decode cX8_tell 95 = .ok (.aload_n 0, 1) := by decide +kernel
theorem dX8_tell_96 : decode cX8_tell 96 = .ok (.getfield 38, 3) := by decide +kernel
theorem dX8_tell_99 : decode cX8_tell 99 = .ok (.ireturn, 1) := by decide +kernel
theorem dX8_tell_100 : decode cX8_tell 100 = .ok (.aload_n 0, 1) := by decide +kernel
theorem dX8_tell_101 : decode cX8_tell 101 = .ok (.getfield 7, 3) := by decide +kernel
theorem dX8_tell_104 : decode cX8_tell 104 = .ok (.iconst 1, 1) := by decide +kernel
theorem dX8_tell_105 : decode cX8_tell 105 = .ok (.iload_n 1, 1) := by decide +kernel
theorem dX8_tell_106 : decode cX8_tell 106 = .ok (.iadd, 1) := by decide +kernel
theorem dX8_tell_107 : decode cX8_tell 107 = .ok (.iconst 4, 1) := by decide +kernel
theorem dX8_tell_108 : decode cX8_tell 108 = .ok (.isub, 1) := by decide +kernel
theorem dX8_tell_109 : decode cX8_tell 109 = .ok (.iaload, 1) := by decide +kernel
theorem dX8_tell_110 : decode cX8_tell 110 = .ok (.ireturn, 1) := by decide +kernel
theorem dX8_told_0 : decode cX8_told 0 = .ok (.iload_n 1, 1) := by decide +kernel
theorem dX8_told_1 : decode cX8_told 1 = .ok (.iconst 0, 1) := by decide +kernel
theorem dX8_told_2 : decode cX8_told 2 = .ok (.bipush 12, 2) := by decide +kernel
theorem dX8_told_4 : decode cX8_told 4 = .ok (.invokestatic 45, 3) := by decide +kernel
theorem dX8_told_7 : decode cX8_told 7 = .ok (.ifCond .eq 11, 3) := by decide +kernel
theorem dX8_told_10 : decode cX8_told 10 = .ok (.aload_n 0, 1) := by decide +kernel
theorem dX8_told_11 : decode cX8_told 11 = .ok (.iload_n 1, 1) := by decide +kernel
theorem dX8_told_12 : decode cX8_told 12 = .ok (.invokevirtual 207, 3) := by decide +kernel
theorem dX8_told_15 : decode cX8_told 15 = .ok (.goto 7, 3) := by decide +kernel
theorem dX8_told_18 : decode cX8_told 18 = .ok (.aload_n 0, 1) := by decide +kernel
theorem dX8_told_19 : decode cX8_told 19 = .ok (.invokevirtual 60, 3) := by decide +kernel
theorem dX8_told_22 : decode cX8_told 22 = .ok (.ireturn, 1) := by decide +kernel
theorem dX8_more_0 : decode cX8_more 0 = .ok (.ldc2_w 210, 3) := by decide +kernel
theorem dX8_more_3 : decode cX8_more 3 = .ok (.lload_n 0, 1) := by decide +kernel
theorem dX8_more_4 : decode cX8_more 4 = .ok (.lmul, 1) := by decide +kernel
theorem dX8_more_5 : decode cX8_more 5 = .ok (.iload_n 2, 1) := by decide +kernel
theorem dX8_more_6 : decode cX8_more 6 = .ok (.i2l, 1) := by decide +kernel
theorem dX8_more_7 : decode cX8_more 7 = .ok (.ladd, 1) := by decide +kernel
theorem dX8_more_8 : decode cX8_more 8 = .ok (.lreturn, 1) := by decide +kernel
theorem dX8_digest_0 : decode cX8_digest 0 = .ok (.ldc2_w 212, 3) := by decide +kernel
theorem dX8_digest_3 : decode cX8_digest 3 = .ok (.lstore_n 1, 1) := by decide +kernel
theorem dX8_digest_4 : decode cX8_digest 4 = .ok (.iconst 0, 1) := by decide +kernel
theorem dX8_digest_5 : decode cX8_digest 5 = .ok (.istore_n 3, 1) := by decide +kernel
theorem dX8_digest_6 : decode cX8_digest 6 = .ok (.iload_n 3, 1) := by decide +kernel
theorem dX8_digest_7 : decode cX8_digest 7 = .ok (.bipush 13, 2) := by decide +kernel
theorem dX8_digest_9 : decode cX8_digest 9 = .ok (.if_icmp .ge 19, 3) := by decide +kernel
theorem dX8_digest_12 : decode cX8_digest 12 = .ok (.lload_n 1, 1) := by decide +kernel
theorem dX8_digest_13 : decode cX8_digest 13 = .ok (.aload_n 0, 1) := by decide +kernel
theorem dX8_digest_14 : decode cX8_digest 14 = .ok (.iload_n 3, 1) := by decide +kernel
theorem dX8_digest_15 : decode cX8_digest 15 = .ok (.invokevirtual 207, 3) := by decide +kernel
theorem dX8_digest_18 : decode cX8_digest 18 = .ok (.invokestatic 214, 3) := by decide +kernel
theorem dX8_digest_21 : decode cX8_digest 21 = .ok (.lstore_n 1, 1) := by decide +kernel
theorem dX8_digest_22 : decode cX8_digest 22 = .ok (.iinc 3 1, 3) := by decide +kernel
theorem dX8_digest_25 : decode cX8_digest 25 = .ok (.goto (-19), 3) := by decide +kernel
theorem dX8_digest_28 : decode cX8_digest 28 = .ok (.lload_n 1, 1) := by decide +kernel
theorem dX8_digest_29 : decode cX8_digest 29 = .ok (.aload_n 0, 1) := by decide +kernel
theorem dX8_digest_30 : decode cX8_digest 30 = .ok (.getfield 192, 3) := by decide +kernel
theorem dX8_digest_33 : decode cX8_digest 33 = .ok (.invokestatic 214, 3) := by decide +kernel
theorem dX8_digest_36 : decode cX8_digest 36 = .ok (.lstore_n 1, 1) := by decide +kernel
theorem dX8_digest_37 : decode cX8_digest 37 = .ok (.lload_n 1, 1) := by decide +kernel
theorem dX8_digest_38 : decode cX8_digest 38 = .ok (.aload_n 0, 1) := by decide +kernel
theorem dX8_digest_39 : decode cX8_digest 39 = .ok (.getfield 16, 3) := by decide +kernel
theorem dX8_digest_42 : decode cX8_digest 42 = .ok (.invokestatic 214, 3) := by decide +kernel
theorem dX8_digest_45 : decode cX8_digest 45 = .ok (.lstore_n 1, 1) := by decide +kernel
theorem dX8_digest_46 : decode cX8_digest 46 = .ok (.aload_n 0, 1) := by decide +kernel
theorem dX8_digest_47 : decode cX8_digest 47 = .ok (.invokevirtual 101, 3) := by decide +kernel
theorem dX8_digest_50 : decode cX8_digest 50 = .ok (.iconst 0, 1) := by decide +kernel
theorem dX8_digest_51 : decode cX8_digest 51 = .ok (.istore_n 3, 1) := by decide +kernel
theorem dX8_digest_52 : decode cX8_digest 52 = .ok (.iload_n 3, 1) := by decide +kernel
theorem dX8_digest_53 : decode cX8_digest 53 = .ok (.aload_n 0, 1) := by decide +kernel
theorem dX8_digest_54 : decode cX8_digest 54 = .ok (.getfield 7, 3) := by decide +kernel
theorem dX8_digest_57 : decode cX8_digest 57 = .ok (.iconst 0, 1) := by decide +kernel
theorem dX8_digest_58 : decode cX8_digest 58 = .ok (.iaload, 1) := by decide +kernel
theorem dX8_digest_59 : decode cX8_digest 59 = .ok (.if_icmp .ge 47, 3) := by decide +kernel
theorem dX8_digest_62 : decode cX8_digest 62 = .ok (.iconst 0, 1) := by decide +kernel
theorem dX8_digest_63 : decode cX8_digest 63 = .ok (.istore 4, 2) := by decide +kernel
theorem dX8_digest_65 : decode cX8_digest 65 = .ok (.iload 4, 2) := by decide +kernel
theorem dX8_digest_67 : decode cX8_digest 67 = .ok (.iconst 3, 1) := by decide +kernel
theorem dX8_digest_68 : decode cX8_digest 68 = .ok (.if_icmp .ge 21, 3) := by decide +kernel
theorem dX8_digest_71 : decode cX8_digest 71 = .ok (.lload_n 1, 1) := by decide +kernel
theorem dX8_digest_72 : decode cX8_digest 72 = .ok (.aload_n 0, 1) := by decide +kernel
theorem dX8_digest_73 : decode cX8_digest 73 = .ok (.iload_n 3, 1) := by decide +kernel
theorem dX8_digest_74 : decode cX8_digest 74 = .ok (.iload 4, 2) := by decide +kernel
theorem dX8_digest_76 : decode cX8_digest 76 = .ok (.invokevirtual 98, 3) := by decide +kernel
theorem dX8_digest_79 : decode cX8_digest 79 = .ok (.invokestatic 214, 3) := by decide +kernel
theorem dX8_digest_82 : decode cX8_digest 82 = .ok (.lstore_n 1, 1) := by decide +kernel
theorem dX8_digest_83 : decode cX8_digest 83 = .ok (.iinc 4 1, 3) := by decide +kernel
theorem dX8_digest_86 : decode cX8_digest 86 = .ok (.goto (-21), 3) := by decide +kernel
theorem dX8_digest_89 : decode cX8_digest 89 = .ok (.lload_n 1, 1) := by decide +kernel
theorem dX8_digest_90 : decode cX8_digest 90 = .ok (.aload_n 0, 1) := by decide +kernel
theorem dX8_digest_91 : decode cX8_digest 91 = .ok (.getfield 20, 3) := by decide +kernel
theorem dX8_digest_94 : decode cX8_digest 94 = .ok (.iload_n 3, 1) := by decide +kernel
theorem dX8_digest_95 : decode cX8_digest 95 = .ok (.iaload, 1) := by decide +kernel
theorem dX8_digest_96 : decode cX8_digest 96 = .ok (.invokestatic 214, 3) := by decide +kernel
theorem dX8_digest_99 : decode cX8_digest 99 = .ok (.lstore_n 1, 1) := by decide +kernel
theorem dX8_digest_100 : decode cX8_digest 100 = .ok (.iinc 3 1, 3) := by decide +kernel
theorem dX8_digest_103 : decode cX8_digest 103 = .ok (.goto (-51), 3) := by decide +kernel
theorem dX8_digest_106 : decode cX8_digest 106 = .ok (.iconst 0, 1) := by decide +kernel
theorem dX8_digest_107 : decode cX8_digest 107 = .ok (.istore_n 3, 1) := by decide +kernel
theorem dX8_digest_108 : decode cX8_digest 108 = .ok (.iload_n 3, 1) := by decide +kernel
theorem dX8_digest_109 : decode cX8_digest 109 = .ok (.bipush 13, 2) := by decide +kernel
theorem dX8_digest_111 : decode cX8_digest 111 = .ok (.if_icmp .ge 19, 3) := by decide +kernel
theorem dX8_digest_114 : decode cX8_digest 114 = .ok (.lload_n 1, 1) := by decide +kernel
theorem dX8_digest_115 : decode cX8_digest 115 = .ok (.aload_n 0, 1) := by decide +kernel
theorem dX8_digest_116 : decode cX8_digest 116 = .ok (.iload_n 3, 1) := by decide +kernel
theorem dX8_digest_117 : decode cX8_digest 117 = .ok (.invokevirtual 140, 3) := by decide +kernel
theorem dX8_digest_120 : decode cX8_digest 120 = .ok (.invokestatic 214, 3) := by decide +kernel
theorem dX8_digest_123 : decode cX8_digest 123 = .ok (.lstore_n 1, 1) := by decide +kernel
theorem dX8_digest_124 : decode cX8_digest 124 = .ok (.iinc 3 1, 3) := by decide +kernel
theorem dX8_digest_127 : decode cX8_digest 127 = .ok (.goto (-19), 3) := by decide +kernel
theorem dX8_digest_130 : decode cX8_digest 130 = .ok (.lload_n 1, 1) := by decide +kernel
theorem dX8_digest_131 : decode cX8_digest 131 = .ok (.lreturn, 1) := by decide +kernel
end
section
theorem dL_law_0 : decode cL_law 0 = .ok (.new 7, 3) := by decide +kernel
theorem dL_law_3 : decode cL_law 3 = .ok (.dup, 1) := by decide +kernel
theorem dL_law_4 : decode cL_law 4 = .ok (.invokespecial 9, 3) := by decide +kernel
theorem dL_law_7 : decode cL_law 7 = .ok (.astore_n 1, 1) := by decide +kernel
theorem dL_law_8 : decode cL_law 8 = .ok (.new 10, 3) := by decide +kernel
theorem dL_law_11 : decode cL_law 11 = .ok (.dup, 1) := by decide +kernel
theorem dL_law_12 : decode cL_law 12 = .ok (.invokespecial 12, 3) := by decide +kernel
theorem dL_law_15 : decode cL_law 15 = .ok (.astore_n 2, 1) := by decide +kernel
theorem dL_law_16 : decode cL_law 16 = .ok (.iconst 0, 1) := by decide +kernel
theorem dL_law_17 : decode cL_law 17 = .ok (.istore_n 3, 1) := by decide +kernel
theorem dL_law_18 : decode cL_law 18 = .ok (.iload_n 3, 1) := by decide +kernel
theorem dL_law_19 : decode cL_law 19 = .ok (.aload_n 0, 1) := by decide +kernel
theorem dL_law_20 : decode cL_law 20 = .ok (.arraylength, 1) := by decide +kernel
theorem dL_law_21 : decode cL_law 21 = .ok (.iconst 5, 1) := by decide +kernel
theorem dL_law_22 : decode cL_law 22 = .ok (.isub, 1) := by decide +kernel
theorem dL_law_23 : decode cL_law 23 = .ok (.if_icmp .gt 693, 3) := by decide +kernel
theorem dL_law_26 : decode cL_law 26 = .ok (.aload_n 0, 1) := by decide +kernel
theorem dL_law_27 : decode cL_law 27 = .ok (.iload_n 3, 1) := by decide +kernel
theorem dL_law_28 : decode cL_law 28 = .ok (.iaload, 1) := by decide +kernel
theorem dL_law_29 : decode cL_law 29 = .ok (.bipush 31, 2) := by decide +kernel
theorem dL_law_31 : decode cL_law 31 = .ok (.iand, 1) := by decide +kernel
theorem dL_law_32 : decode cL_law 32 = .ok (.tableswitch 678 0 22 #[108, 131, 184, 217, 250, 283, 306, 329, 352, 385, 418, 441, 474, 497, 520, 533, 556, 579, 592, 605, 628, 641, 664], 108) := by decide +kernel
theorem dL_law_140 : decode cL_law 140 = .ok (.aload_n 1, 1) := by decide +kernel
theorem dL_law_141 : decode cL_law 141 = .ok (.aload_n 0, 1) := by decide +kernel
theorem dL_law_142 : decode cL_law 142 = .ok (.iload_n 3, 1) := by decide +kernel
theorem dL_law_143 : decode cL_law 143 = .ok (.iconst 1, 1) := by decide +kernel
theorem dL_law_144 : decode cL_law 144 = .ok (.iadd, 1) := by decide +kernel
theorem dL_law_145 : decode cL_law 145 = .ok (.iaload, 1) := by decide +kernel
theorem dL_law_146 : decode cL_law 146 = .ok (.invokevirtual 13, 3) := by decide +kernel
theorem dL_law_149 : decode cL_law 149 = .ok (.aload_n 2, 1) := by decide +kernel
theorem dL_law_150 : decode cL_law 150 = .ok (.aload_n 0, 1) := by decide +kernel
theorem dL_law_151 : decode cL_law 151 = .ok (.iload_n 3, 1) := by decide +kernel
theorem dL_law_152 : decode cL_law 152 = .ok (.iconst 1, 1) := by decide +kernel
theorem dL_law_153 : decode cL_law 153 = .ok (.iadd, 1) := by decide +kernel
theorem dL_law_154 : decode cL_law 154 = .ok (.iaload, 1) := by decide +kernel
theorem dL_law_155 : decode cL_law 155 = .ok (.invokevirtual 17, 3) := by decide +kernel
theorem dL_law_158 : decode cL_law 158 = .ok (.if_icmp .eq 552, 3) := by decide +kernel
theorem dL_law_161 : decode cL_law 161 = .ok (.iconst 0, 1) := by decide +kernel
theorem dL_law_162 : decode cL_law 162 = .ok (.ireturn, 1) := by decide +kernel
theorem dL_law_163 : decode cL_law 163 = .ok (.aload_n 1, 1) := by decide +kernel
theorem dL_law_164 : decode cL_law 164 = .ok (.aload_n 0, 1) := by decide +kernel
theorem dL_law_165 : decode cL_law 165 = .ok (.iload_n 3, 1) := by decide +kernel
theorem dL_law_166 : decode cL_law 166 = .ok (.iconst 1, 1) := by decide +kernel
theorem dL_law_167 : decode cL_law 167 = .ok (.iadd, 1) := by decide +kernel
theorem dL_law_168 : decode cL_law 168 = .ok (.iaload, 1) := by decide +kernel
theorem dL_law_169 : decode cL_law 169 = .ok (.aload_n 0, 1) := by decide +kernel
theorem dL_law_170 : decode cL_law 170 = .ok (.iload_n 3, 1) := by decide +kernel
theorem dL_law_171 : decode cL_law 171 = .ok (.iconst 2, 1) := by decide +kernel
theorem dL_law_172 : decode cL_law 172 = .ok (.iadd, 1) := by decide +kernel
theorem dL_law_173 : decode cL_law 173 = .ok (.iaload, 1) := by decide +kernel
theorem dL_law_174 : decode cL_law 174 = .ok (.aload_n 0, 1) := by decide +kernel
theorem dL_law_175 : decode cL_law 175 = .ok (.iload_n 3, 1) := by decide +kernel
theorem dL_law_176 : decode cL_law 176 = .ok (.iconst 3, 1) := by decide +kernel
theorem dL_law_177 : decode cL_law 177 = .ok (.iadd, 1) := by decide +kernel
theorem dL_law_178 : decode cL_law 178 = .ok (.iaload, 1) := by decide +kernel
theorem dL_law_179 : decode cL_law 179 = .ok (.aload_n 0, 1) := by decide +kernel
theorem dL_law_180 : decode cL_law 180 = .ok (.iload_n 3, 1) := by decide +kernel
theorem dL_law_181 : decode cL_law 181 = .ok (.iconst 4, 1) := by decide +kernel
theorem dL_law_182 : decode cL_law 182 = .ok (.iadd, 1) := by decide +kernel
theorem dL_law_183 : decode cL_law 183 = .ok (.iaload, 1) := by decide +kernel
theorem dL_law_184 : decode cL_law 184 = .ok (.invokevirtual 18, 3) := by decide +kernel
theorem dL_law_187 : decode cL_law 187 = .ok (.aload_n 2, 1) := by decide +kernel
theorem dL_law_188 : decode cL_law 188 = .ok (.aload_n 0, 1) := by decide +kernel
theorem dL_law_189 : decode cL_law 189 = .ok (.iload_n 3, 1) := by decide +kernel
theorem dL_law_190 : decode cL_law 190 = .ok (.iconst 1, 1) := by decide +kernel
theorem dL_law_191 : decode cL_law 191 = .ok (.iadd, 1) := by decide +kernel
theorem dL_law_192 : decode cL_law 192 = .ok (.iaload, 1) := by decide +kernel
theorem dL_law_193 : decode cL_law 193 = .ok (.aload_n 0, 1) := by decide +kernel
theorem dL_law_194 : decode cL_law 194 = .ok (.iload_n 3, 1) := by decide +kernel
theorem dL_law_195 : decode cL_law 195 = .ok (.iconst 2, 1) := by decide +kernel
theorem dL_law_196 : decode cL_law 196 = .ok (.iadd, 1) := by decide +kernel
theorem dL_law_197 : decode cL_law 197 = .ok (.iaload, 1) := by decide +kernel
theorem dL_law_198 : decode cL_law 198 = .ok (.aload_n 0, 1) := by decide +kernel
theorem dL_law_199 : decode cL_law 199 = .ok (.iload_n 3, 1) := by decide +kernel
theorem dL_law_200 : decode cL_law 200 = .ok (.iconst 3, 1) := by decide +kernel
theorem dL_law_201 : decode cL_law 201 = .ok (.iadd, 1) := by decide +kernel
theorem dL_law_202 : decode cL_law 202 = .ok (.iaload, 1) := by decide +kernel
theorem dL_law_203 : decode cL_law 203 = .ok (.aload_n 0, 1) := by decide +kernel
theorem dL_law_204 : decode cL_law 204 = .ok (.iload_n 3, 1) := by decide +kernel
theorem dL_law_205 : decode cL_law 205 = .ok (.iconst 4, 1) := by decide +kernel
theorem dL_law_206 : decode cL_law 206 = .ok (.iadd, 1) := by decide +kernel
theorem dL_law_207 : decode cL_law 207 = .ok (.iaload, 1) := by decide +kernel
theorem dL_law_208 : decode cL_law 208 = .ok (.invokevirtual 22, 3) := by decide +kernel
theorem dL_law_211 : decode cL_law 211 = .ok (.if_icmp .eq 499, 3) := by decide +kernel
theorem dL_law_214 : decode cL_law 214 = .ok (.iconst 0, 1) := by decide +kernel
theorem dL_law_215 : decode cL_law 215 = .ok (.ireturn, 1) := by decide +kernel
theorem dL_law_216 : decode cL_law 216 = .ok (.aload_n 1, 1) := by decide +kernel
theorem dL_law_217 : decode cL_law 217 = .ok (.aload_n 0, 1) := by decide +kernel
theorem dL_law_218 : decode cL_law 218 = .ok (.iload_n 3, 1) := by decide +kernel
theorem dL_law_219 : decode cL_law 219 = .ok (.iconst 1, 1) := by decide +kernel
theorem dL_law_220 : decode cL_law 220 = .ok (.iadd, 1) := by decide +kernel
theorem dL_law_221 : decode cL_law 221 = .ok (.iaload, 1) := by decide +kernel
theorem dL_law_222 : decode cL_law 222 = .ok (.aload_n 0, 1) := by decide +kernel
theorem dL_law_223 : decode cL_law 223 = .ok (.iload_n 3, 1) := by decide +kernel
theorem dL_law_224 : decode cL_law 224 = .ok (.iconst 2, 1) := by decide +kernel
theorem dL_law_225 : decode cL_law 225 = .ok (.iadd, 1) := by decide +kernel
theorem dL_law_226 : decode cL_law 226 = .ok (.iaload, 1) := by decide +kernel
theorem dL_law_227 : decode cL_law 227 = .ok (.invokevirtual 23, 3) := by decide +kernel
theorem dL_law_230 : decode cL_law 230 = .ok (.aload_n 2, 1) := by decide +kernel
theorem dL_law_231 : decode cL_law 231 = .ok (.aload_n 0, 1) := by decide +kernel
theorem dL_law_232 : decode cL_law 232 = .ok (.iload_n 3, 1) := by decide +kernel
theorem dL_law_233 : decode cL_law 233 = .ok (.iconst 1, 1) := by decide +kernel
theorem dL_law_234 : decode cL_law 234 = .ok (.iadd, 1) := by decide +kernel
theorem dL_law_235 : decode cL_law 235 = .ok (.iaload, 1) := by decide +kernel
theorem dL_law_236 : decode cL_law 236 = .ok (.aload_n 0, 1) := by decide +kernel
theorem dL_law_237 : decode cL_law 237 = .ok (.iload_n 3, 1) := by decide +kernel
theorem dL_law_238 : decode cL_law 238 = .ok (.iconst 2, 1) := by decide +kernel
theorem dL_law_239 : decode cL_law 239 = .ok (.iadd, 1) := by decide +kernel
theorem dL_law_240 : decode cL_law 240 = .ok (.iaload, 1) := by decide +kernel
theorem dL_law_241 : decode cL_law 241 = .ok (.invokevirtual 27, 3) := by decide +kernel
theorem dL_law_244 : decode cL_law 244 = .ok (.if_icmp .eq 466, 3) := by decide +kernel
theorem dL_law_247 : decode cL_law 247 = .ok (.iconst 0, 1) := by decide +kernel
theorem dL_law_248 : decode cL_law 248 = .ok (.ireturn, 1) := by decide +kernel
theorem dL_law_249 : decode cL_law 249 = .ok (.aload_n 1, 1) := by decide +kernel
theorem dL_law_250 : decode cL_law 250 = .ok (.aload_n 0, 1) := by decide +kernel
theorem dL_law_251 : decode cL_law 251 = .ok (.iload_n 3, 1) := by decide +kernel
theorem dL_law_252 : decode cL_law 252 = .ok (.iconst 1, 1) := by decide +kernel
theorem dL_law_253 : decode cL_law 253 = .ok (.iadd, 1) := by decide +kernel
theorem dL_law_254 : decode cL_law 254 = .ok (.iaload, 1) := by decide +kernel
theorem dL_law_255 : decode cL_law 255 = .ok (.aload_n 0, 1) := by decide +kernel
theorem dL_law_256 : decode cL_law 256 = .ok (.iload_n 3, 1) := by decide +kernel
theorem dL_law_257 : decode cL_law 257 = .ok (.iconst 2, 1) := by decide +kernel
theorem dL_law_258 : decode cL_law 258 = .ok (.iadd, 1) := by decide +kernel
theorem dL_law_259 : decode cL_law 259 = .ok (.iaload, 1) := by decide +kernel
theorem dL_law_260 : decode cL_law 260 = .ok (.invokevirtual 28, 3) := by decide +kernel
theorem dL_law_263 : decode cL_law 263 = .ok (.aload_n 2, 1) := by decide +kernel
theorem dL_law_264 : decode cL_law 264 = .ok (.aload_n 0, 1) := by decide +kernel
theorem dL_law_265 : decode cL_law 265 = .ok (.iload_n 3, 1) := by decide +kernel
theorem dL_law_266 : decode cL_law 266 = .ok (.iconst 1, 1) := by decide +kernel
theorem dL_law_267 : decode cL_law 267 = .ok (.iadd, 1) := by decide +kernel
theorem dL_law_268 : decode cL_law 268 = .ok (.iaload, 1) := by decide +kernel
theorem dL_law_269 : decode cL_law 269 = .ok (.aload_n 0, 1) := by decide +kernel
theorem dL_law_270 : decode cL_law 270 = .ok (.iload_n 3, 1) := by decide +kernel
theorem dL_law_271 : decode cL_law 271 = .ok (.iconst 2, 1) := by decide +kernel
theorem dL_law_272 : decode cL_law 272 = .ok (.iadd, 1) := by decide +kernel
theorem dL_law_273 : decode cL_law 273 = .ok (.iaload, 1) := by decide +kernel
theorem dL_law_274 : decode cL_law 274 = .ok (.invokevirtual 31, 3) := by decide +kernel
theorem dL_law_277 : decode cL_law 277 = .ok (.if_icmp .eq 433, 3) := by decide +kernel
theorem dL_law_280 : decode cL_law 280 = .ok (.iconst 0, 1) := by decide +kernel
theorem dL_law_281 : decode cL_law 281 = .ok (.ireturn, 1) := by decide +kernel
theorem dL_law_282 : decode cL_law 282 = .ok (.aload_n 1, 1) := by decide +kernel
theorem dL_law_283 : decode cL_law 283 = .ok (.aload_n 0, 1) := by decide +kernel
theorem dL_law_284 : decode cL_law 284 = .ok (.iload_n 3, 1) := by decide +kernel
theorem dL_law_285 : decode cL_law 285 = .ok (.iconst 1, 1) := by decide +kernel
theorem dL_law_286 : decode cL_law 286 = .ok (.iadd, 1) := by decide +kernel
theorem dL_law_287 : decode cL_law 287 = .ok (.iaload, 1) := by decide +kernel
theorem dL_law_288 : decode cL_law 288 = .ok (.aload_n 0, 1) := by decide +kernel
theorem dL_law_289 : decode cL_law 289 = .ok (.iload_n 3, 1) := by decide +kernel
theorem dL_law_290 : decode cL_law 290 = .ok (.iconst 2, 1) := by decide +kernel
theorem dL_law_291 : decode cL_law 291 = .ok (.iadd, 1) := by decide +kernel
theorem dL_law_292 : decode cL_law 292 = .ok (.iaload, 1) := by decide +kernel
theorem dL_law_293 : decode cL_law 293 = .ok (.invokevirtual 32, 3) := by decide +kernel
theorem dL_law_296 : decode cL_law 296 = .ok (.aload_n 2, 1) := by decide +kernel
theorem dL_law_297 : decode cL_law 297 = .ok (.aload_n 0, 1) := by decide +kernel
theorem dL_law_298 : decode cL_law 298 = .ok (.iload_n 3, 1) := by decide +kernel
theorem dL_law_299 : decode cL_law 299 = .ok (.iconst 1, 1) := by decide +kernel
theorem dL_law_300 : decode cL_law 300 = .ok (.iadd, 1) := by decide +kernel
theorem dL_law_301 : decode cL_law 301 = .ok (.iaload, 1) := by decide +kernel
theorem dL_law_302 : decode cL_law 302 = .ok (.aload_n 0, 1) := by decide +kernel
theorem dL_law_303 : decode cL_law 303 = .ok (.iload_n 3, 1) := by decide +kernel
theorem dL_law_304 : decode cL_law 304 = .ok (.iconst 2, 1) := by decide +kernel
theorem dL_law_305 : decode cL_law 305 = .ok (.iadd, 1) := by decide +kernel
theorem dL_law_306 : decode cL_law 306 = .ok (.iaload, 1) := by decide +kernel
theorem dL_law_307 : decode cL_law 307 = .ok (.invokevirtual 35, 3) := by decide +kernel
theorem dL_law_310 : decode cL_law 310 = .ok (.if_icmp .eq 400, 3) := by decide +kernel
theorem dL_law_313 : decode cL_law 313 = .ok (.iconst 0, 1) := by decide +kernel
theorem dL_law_314 : decode cL_law 314 = .ok (.ireturn, 1) := by decide +kernel
theorem dL_law_315 : decode cL_law 315 = .ok (.aload_n 1, 1) := by decide +kernel
theorem dL_law_316 : decode cL_law 316 = .ok (.aload_n 0, 1) := by decide +kernel
theorem dL_law_317 : decode cL_law 317 = .ok (.iload_n 3, 1) := by decide +kernel
theorem dL_law_318 : decode cL_law 318 = .ok (.iconst 1, 1) := by decide +kernel
theorem dL_law_319 : decode cL_law 319 = .ok (.iadd, 1) := by decide +kernel
theorem dL_law_320 : decode cL_law 320 = .ok (.iaload, 1) := by decide +kernel
theorem dL_law_321 : decode cL_law 321 = .ok (.invokevirtual 36, 3) := by decide +kernel
theorem dL_law_324 : decode cL_law 324 = .ok (.aload_n 2, 1) := by decide +kernel
theorem dL_law_325 : decode cL_law 325 = .ok (.aload_n 0, 1) := by decide +kernel
theorem dL_law_326 : decode cL_law 326 = .ok (.iload_n 3, 1) := by decide +kernel
theorem dL_law_327 : decode cL_law 327 = .ok (.iconst 1, 1) := by decide +kernel
theorem dL_law_328 : decode cL_law 328 = .ok (.iadd, 1) := by decide +kernel
theorem dL_law_329 : decode cL_law 329 = .ok (.iaload, 1) := by decide +kernel
theorem dL_law_330 : decode cL_law 330 = .ok (.invokevirtual 39, 3) := by decide +kernel
theorem dL_law_333 : decode cL_law 333 = .ok (.if_icmp .eq 377, 3) := by decide +kernel
theorem dL_law_336 : decode cL_law 336 = .ok (.iconst 0, 1) := by decide +kernel
theorem dL_law_337 : decode cL_law 337 = .ok (.ireturn, 1) := by decide +kernel
theorem dL_law_338 : decode cL_law 338 = .ok (.aload_n 1, 1) := by decide +kernel
theorem dL_law_339 : decode cL_law 339 = .ok (.aload_n 0, 1) := by decide +kernel
theorem dL_law_340 : decode cL_law 340 = .ok (.iload_n 3, 1) := by decide +kernel
theorem dL_law_341 : decode cL_law 341 = .ok (.iconst 1, 1) := by decide +kernel
theorem dL_law_342 : decode cL_law 342 = .ok (.iadd, 1) := by decide +kernel
theorem dL_law_343 : decode cL_law 343 = .ok (.iaload, 1) := by decide +kernel
theorem dL_law_344 : decode cL_law 344 = .ok (.invokevirtual 40, 3) := by decide +kernel
theorem dL_law_347 : decode cL_law 347 = .ok (.aload_n 2, 1) := by decide +kernel
theorem dL_law_348 : decode cL_law 348 = .ok (.aload_n 0, 1) := by decide +kernel
theorem dL_law_349 : decode cL_law 349 = .ok (.iload_n 3, 1) := by decide +kernel
theorem dL_law_350 : decode cL_law 350 = .ok (.iconst 1, 1) := by decide +kernel
theorem dL_law_351 : decode cL_law 351 = .ok (.iadd, 1) := by decide +kernel
theorem dL_law_352 : decode cL_law 352 = .ok (.iaload, 1) := by decide +kernel
theorem dL_law_353 : decode cL_law 353 = .ok (.invokevirtual 43, 3) := by decide +kernel
theorem dL_law_356 : decode cL_law 356 = .ok (.if_icmp .eq 354, 3) := by decide +kernel
theorem dL_law_359 : decode cL_law 359 = .ok (.iconst 0, 1) := by decide +kernel
theorem dL_law_360 : decode cL_law 360 = .ok (.ireturn, 1) := by decide +kernel
theorem dL_law_361 : decode cL_law 361 = .ok (.aload_n 1, 1) := by decide +kernel
theorem dL_law_362 : decode cL_law 362 = .ok (.aload_n 0, 1) := by decide +kernel
theorem dL_law_363 : decode cL_law 363 = .ok (.iload_n 3, 1) := by decide +kernel
theorem dL_law_364 : decode cL_law 364 = .ok (.iconst 1, 1) := by decide +kernel
theorem dL_law_365 : decode cL_law 365 = .ok (.iadd, 1) := by decide +kernel
theorem dL_law_366 : decode cL_law 366 = .ok (.iaload, 1) := by decide +kernel
theorem dL_law_367 : decode cL_law 367 = .ok (.invokevirtual 44, 3) := by decide +kernel
theorem dL_law_370 : decode cL_law 370 = .ok (.aload_n 2, 1) := by decide +kernel
theorem dL_law_371 : decode cL_law 371 = .ok (.aload_n 0, 1) := by decide +kernel
theorem dL_law_372 : decode cL_law 372 = .ok (.iload_n 3, 1) := by decide +kernel
theorem dL_law_373 : decode cL_law 373 = .ok (.iconst 1, 1) := by decide +kernel
theorem dL_law_374 : decode cL_law 374 = .ok (.iadd, 1) := by decide +kernel
theorem dL_law_375 : decode cL_law 375 = .ok (.iaload, 1) := by decide +kernel
theorem dL_law_376 : decode cL_law 376 = .ok (.invokevirtual 47, 3) := by decide +kernel
theorem dL_law_379 : decode cL_law 379 = .ok (.if_icmp .eq 331, 3) := by decide +kernel
theorem dL_law_382 : decode cL_law 382 = .ok (.iconst 0, 1) := by decide +kernel
theorem dL_law_383 : decode cL_law 383 = .ok (.ireturn, 1) := by decide +kernel
theorem dL_law_384 : decode cL_law 384 = .ok (.aload_n 1, 1) := by decide +kernel
theorem dL_law_385 : decode cL_law 385 = .ok (.aload_n 0, 1) := by decide +kernel
theorem dL_law_386 : decode cL_law 386 = .ok (.iload_n 3, 1) := by decide +kernel
theorem dL_law_387 : decode cL_law 387 = .ok (.iconst 1, 1) := by decide +kernel
theorem dL_law_388 : decode cL_law 388 = .ok (.iadd, 1) := by decide +kernel
theorem dL_law_389 : decode cL_law 389 = .ok (.iaload, 1) := by decide +kernel
theorem dL_law_390 : decode cL_law 390 = .ok (.aload_n 0, 1) := by decide +kernel
theorem dL_law_391 : decode cL_law 391 = .ok (.iload_n 3, 1) := by decide +kernel
theorem dL_law_392 : decode cL_law 392 = .ok (.iconst 2, 1) := by decide +kernel
theorem dL_law_393 : decode cL_law 393 = .ok (.iadd, 1) := by decide +kernel
theorem dL_law_394 : decode cL_law 394 = .ok (.iaload, 1) := by decide +kernel
theorem dL_law_395 : decode cL_law 395 = .ok (.invokevirtual 48, 3) := by decide +kernel
theorem dL_law_398 : decode cL_law 398 = .ok (.aload_n 2, 1) := by decide +kernel
theorem dL_law_399 : decode cL_law 399 = .ok (.aload_n 0, 1) := by decide +kernel
theorem dL_law_400 : decode cL_law 400 = .ok (.iload_n 3, 1) := by decide +kernel
theorem dL_law_401 : decode cL_law 401 = .ok (.iconst 1, 1) := by decide +kernel
theorem dL_law_402 : decode cL_law 402 = .ok (.iadd, 1) := by decide +kernel
theorem dL_law_403 : decode cL_law 403 = .ok (.iaload, 1) := by decide +kernel
theorem dL_law_404 : decode cL_law 404 = .ok (.aload_n 0, 1) := by decide +kernel
theorem dL_law_405 : decode cL_law 405 = .ok (.iload_n 3, 1) := by decide +kernel
theorem dL_law_406 : decode cL_law 406 = .ok (.iconst 2, 1) := by decide +kernel
theorem dL_law_407 : decode cL_law 407 = .ok (.iadd, 1) := by decide +kernel
theorem dL_law_408 : decode cL_law 408 = .ok (.iaload, 1) := by decide +kernel
theorem dL_law_409 : decode cL_law 409 = .ok (.invokevirtual 51, 3) := by decide +kernel
theorem dL_law_412 : decode cL_law 412 = .ok (.if_icmp .eq 298, 3) := by decide +kernel
theorem dL_law_415 : decode cL_law 415 = .ok (.iconst 0, 1) := by decide +kernel
theorem dL_law_416 : decode cL_law 416 = .ok (.ireturn, 1) := by decide +kernel
theorem dL_law_417 : decode cL_law 417 = .ok (.aload_n 1, 1) := by decide +kernel
theorem dL_law_418 : decode cL_law 418 = .ok (.aload_n 0, 1) := by decide +kernel
theorem dL_law_419 : decode cL_law 419 = .ok (.iload_n 3, 1) := by decide +kernel
theorem dL_law_420 : decode cL_law 420 = .ok (.iconst 1, 1) := by decide +kernel
theorem dL_law_421 : decode cL_law 421 = .ok (.iadd, 1) := by decide +kernel
theorem dL_law_422 : decode cL_law 422 = .ok (.iaload, 1) := by decide +kernel
theorem dL_law_423 : decode cL_law 423 = .ok (.aload_n 0, 1) := by decide +kernel
theorem dL_law_424 : decode cL_law 424 = .ok (.iload_n 3, 1) := by decide +kernel
theorem dL_law_425 : decode cL_law 425 = .ok (.iconst 2, 1) := by decide +kernel
theorem dL_law_426 : decode cL_law 426 = .ok (.iadd, 1) := by decide +kernel
theorem dL_law_427 : decode cL_law 427 = .ok (.iaload, 1) := by decide +kernel
theorem dL_law_428 : decode cL_law 428 = .ok (.invokevirtual 52, 3) := by decide +kernel
theorem dL_law_431 : decode cL_law 431 = .ok (.aload_n 2, 1) := by decide +kernel
theorem dL_law_432 : decode cL_law 432 = .ok (.aload_n 0, 1) := by decide +kernel
theorem dL_law_433 : decode cL_law 433 = .ok (.iload_n 3, 1) := by decide +kernel
theorem dL_law_434 : decode cL_law 434 = .ok (.iconst 1, 1) := by decide +kernel
theorem dL_law_435 : decode cL_law 435 = .ok (.iadd, 1) := by decide +kernel
theorem dL_law_436 : decode cL_law 436 = .ok (.iaload, 1) := by decide +kernel
theorem dL_law_437 : decode cL_law 437 = .ok (.aload_n 0, 1) := by decide +kernel
theorem dL_law_438 : decode cL_law 438 = .ok (.iload_n 3, 1) := by decide +kernel
theorem dL_law_439 : decode cL_law 439 = .ok (.iconst 2, 1) := by decide +kernel
theorem dL_law_440 : decode cL_law 440 = .ok (.iadd, 1) := by decide +kernel
theorem dL_law_441 : decode cL_law 441 = .ok (.iaload, 1) := by decide +kernel
theorem dL_law_442 : decode cL_law 442 = .ok (.invokevirtual 55, 3) := by decide +kernel
theorem dL_law_445 : decode cL_law 445 = .ok (.if_icmp .eq 265, 3) := by decide +kernel
theorem dL_law_448 : decode cL_law 448 = .ok (.iconst 0, 1) := by decide +kernel
theorem dL_law_449 : decode cL_law 449 = .ok (.ireturn, 1) := by decide +kernel
theorem dL_law_450 : decode cL_law 450 = .ok (.aload_n 1, 1) := by decide +kernel
theorem dL_law_451 : decode cL_law 451 = .ok (.aload_n 0, 1) := by decide +kernel
theorem dL_law_452 : decode cL_law 452 = .ok (.iload_n 3, 1) := by decide +kernel
theorem dL_law_453 : decode cL_law 453 = .ok (.iconst 1, 1) := by decide +kernel
theorem dL_law_454 : decode cL_law 454 = .ok (.iadd, 1) := by decide +kernel
theorem dL_law_455 : decode cL_law 455 = .ok (.iaload, 1) := by decide +kernel
theorem dL_law_456 : decode cL_law 456 = .ok (.invokevirtual 56, 3) := by decide +kernel
theorem dL_law_459 : decode cL_law 459 = .ok (.aload_n 2, 1) := by decide +kernel
theorem dL_law_460 : decode cL_law 460 = .ok (.aload_n 0, 1) := by decide +kernel
theorem dL_law_461 : decode cL_law 461 = .ok (.iload_n 3, 1) := by decide +kernel
theorem dL_law_462 : decode cL_law 462 = .ok (.iconst 1, 1) := by decide +kernel
theorem dL_law_463 : decode cL_law 463 = .ok (.iadd, 1) := by decide +kernel
theorem dL_law_464 : decode cL_law 464 = .ok (.iaload, 1) := by decide +kernel
theorem dL_law_465 : decode cL_law 465 = .ok (.invokevirtual 59, 3) := by decide +kernel
theorem dL_law_468 : decode cL_law 468 = .ok (.if_icmp .eq 242, 3) := by decide +kernel
theorem dL_law_471 : decode cL_law 471 = .ok (.iconst 0, 1) := by decide +kernel
theorem dL_law_472 : decode cL_law 472 = .ok (.ireturn, 1) := by decide +kernel
theorem dL_law_473 : decode cL_law 473 = .ok (.aload_n 1, 1) := by decide +kernel
theorem dL_law_474 : decode cL_law 474 = .ok (.aload_n 0, 1) := by decide +kernel
theorem dL_law_475 : decode cL_law 475 = .ok (.iload_n 3, 1) := by decide +kernel
theorem dL_law_476 : decode cL_law 476 = .ok (.iconst 1, 1) := by decide +kernel
theorem dL_law_477 : decode cL_law 477 = .ok (.iadd, 1) := by decide +kernel
theorem dL_law_478 : decode cL_law 478 = .ok (.iaload, 1) := by decide +kernel
theorem dL_law_479 : decode cL_law 479 = .ok (.aload_n 0, 1) := by decide +kernel
theorem dL_law_480 : decode cL_law 480 = .ok (.iload_n 3, 1) := by decide +kernel
theorem dL_law_481 : decode cL_law 481 = .ok (.iconst 2, 1) := by decide +kernel
theorem dL_law_482 : decode cL_law 482 = .ok (.iadd, 1) := by decide +kernel
theorem dL_law_483 : decode cL_law 483 = .ok (.iaload, 1) := by decide +kernel
theorem dL_law_484 : decode cL_law 484 = .ok (.invokevirtual 60, 3) := by decide +kernel
theorem dL_law_487 : decode cL_law 487 = .ok (.aload_n 2, 1) := by decide +kernel
theorem dL_law_488 : decode cL_law 488 = .ok (.aload_n 0, 1) := by decide +kernel
theorem dL_law_489 : decode cL_law 489 = .ok (.iload_n 3, 1) := by decide +kernel
theorem dL_law_490 : decode cL_law 490 = .ok (.iconst 1, 1) := by decide +kernel
theorem dL_law_491 : decode cL_law 491 = .ok (.iadd, 1) := by decide +kernel
theorem dL_law_492 : decode cL_law 492 = .ok (.iaload, 1) := by decide +kernel
theorem dL_law_493 : decode cL_law 493 = .ok (.aload_n 0, 1) := by decide +kernel
theorem dL_law_494 : decode cL_law 494 = .ok (.iload_n 3, 1) := by decide +kernel
theorem dL_law_495 : decode cL_law 495 = .ok (.iconst 2, 1) := by decide +kernel
theorem dL_law_496 : decode cL_law 496 = .ok (.iadd, 1) := by decide +kernel
theorem dL_law_497 : decode cL_law 497 = .ok (.iaload, 1) := by decide +kernel
theorem dL_law_498 : decode cL_law 498 = .ok (.invokevirtual 63, 3) := by decide +kernel
theorem dL_law_501 : decode cL_law 501 = .ok (.if_icmp .eq 209, 3) := by decide +kernel
theorem dL_law_504 : decode cL_law 504 = .ok (.iconst 0, 1) := by decide +kernel
theorem dL_law_505 : decode cL_law 505 = .ok (.ireturn, 1) := by decide +kernel
theorem dL_law_506 : decode cL_law 506 = .ok (.aload_n 1, 1) := by decide +kernel
theorem dL_law_507 : decode cL_law 507 = .ok (.aload_n 0, 1) := by decide +kernel
theorem dL_law_508 : decode cL_law 508 = .ok (.iload_n 3, 1) := by decide +kernel
theorem dL_law_509 : decode cL_law 509 = .ok (.iconst 1, 1) := by decide +kernel
theorem dL_law_510 : decode cL_law 510 = .ok (.iadd, 1) := by decide +kernel
theorem dL_law_511 : decode cL_law 511 = .ok (.iaload, 1) := by decide +kernel
theorem dL_law_512 : decode cL_law 512 = .ok (.invokevirtual 64, 3) := by decide +kernel
theorem dL_law_515 : decode cL_law 515 = .ok (.aload_n 2, 1) := by decide +kernel
theorem dL_law_516 : decode cL_law 516 = .ok (.aload_n 0, 1) := by decide +kernel
theorem dL_law_517 : decode cL_law 517 = .ok (.iload_n 3, 1) := by decide +kernel
theorem dL_law_518 : decode cL_law 518 = .ok (.iconst 1, 1) := by decide +kernel
theorem dL_law_519 : decode cL_law 519 = .ok (.iadd, 1) := by decide +kernel
theorem dL_law_520 : decode cL_law 520 = .ok (.iaload, 1) := by decide +kernel
theorem dL_law_521 : decode cL_law 521 = .ok (.invokevirtual 67, 3) := by decide +kernel
theorem dL_law_524 : decode cL_law 524 = .ok (.if_icmp .eq 186, 3) := by decide +kernel
theorem dL_law_527 : decode cL_law 527 = .ok (.iconst 0, 1) := by decide +kernel
theorem dL_law_528 : decode cL_law 528 = .ok (.ireturn, 1) := by decide +kernel
theorem dL_law_529 : decode cL_law 529 = .ok (.aload_n 1, 1) := by decide +kernel
theorem dL_law_530 : decode cL_law 530 = .ok (.aload_n 0, 1) := by decide +kernel
theorem dL_law_531 : decode cL_law 531 = .ok (.iload_n 3, 1) := by decide +kernel
theorem dL_law_532 : decode cL_law 532 = .ok (.iconst 1, 1) := by decide +kernel
theorem dL_law_533 : decode cL_law 533 = .ok (.iadd, 1) := by decide +kernel
theorem dL_law_534 : decode cL_law 534 = .ok (.iaload, 1) := by decide +kernel
theorem dL_law_535 : decode cL_law 535 = .ok (.invokevirtual 68, 3) := by decide +kernel
theorem dL_law_538 : decode cL_law 538 = .ok (.aload_n 2, 1) := by decide +kernel
theorem dL_law_539 : decode cL_law 539 = .ok (.aload_n 0, 1) := by decide +kernel
theorem dL_law_540 : decode cL_law 540 = .ok (.iload_n 3, 1) := by decide +kernel
theorem dL_law_541 : decode cL_law 541 = .ok (.iconst 1, 1) := by decide +kernel
theorem dL_law_542 : decode cL_law 542 = .ok (.iadd, 1) := by decide +kernel
theorem dL_law_543 : decode cL_law 543 = .ok (.iaload, 1) := by decide +kernel
theorem dL_law_544 : decode cL_law 544 = .ok (.invokevirtual 71, 3) := by decide +kernel
theorem dL_law_547 : decode cL_law 547 = .ok (.if_icmp .eq 163, 3) := by decide +kernel
theorem dL_law_550 : decode cL_law 550 = .ok (.iconst 0, 1) := by decide +kernel
theorem dL_law_551 : decode cL_law 551 = .ok (.ireturn, 1) := by decide +kernel
theorem dL_law_552 : decode cL_law 552 = .ok (.aload_n 1, 1) := by decide +kernel
theorem dL_law_553 : decode cL_law 553 = .ok (.invokevirtual 72, 3) := by decide +kernel
theorem dL_law_556 : decode cL_law 556 = .ok (.aload_n 2, 1) := by decide +kernel
theorem dL_law_557 : decode cL_law 557 = .ok (.invokevirtual 76, 3) := by decide +kernel
theorem dL_law_560 : decode cL_law 560 = .ok (.if_icmp .eq 150, 3) := by decide +kernel
theorem dL_law_563 : decode cL_law 563 = .ok (.iconst 0, 1) := by decide +kernel
theorem dL_law_564 : decode cL_law 564 = .ok (.ireturn, 1) := by decide +kernel
theorem dL_law_565 : decode cL_law 565 = .ok (.aload_n 1, 1) := by decide +kernel
theorem dL_law_566 : decode cL_law 566 = .ok (.aload_n 0, 1) := by decide +kernel
theorem dL_law_567 : decode cL_law 567 = .ok (.iload_n 3, 1) := by decide +kernel
theorem dL_law_568 : decode cL_law 568 = .ok (.iconst 1, 1) := by decide +kernel
theorem dL_law_569 : decode cL_law 569 = .ok (.iadd, 1) := by decide +kernel
theorem dL_law_570 : decode cL_law 570 = .ok (.iaload, 1) := by decide +kernel
theorem dL_law_571 : decode cL_law 571 = .ok (.invokevirtual 77, 3) := by decide +kernel
theorem dL_law_574 : decode cL_law 574 = .ok (.aload_n 2, 1) := by decide +kernel
theorem dL_law_575 : decode cL_law 575 = .ok (.aload_n 0, 1) := by decide +kernel
theorem dL_law_576 : decode cL_law 576 = .ok (.iload_n 3, 1) := by decide +kernel
theorem dL_law_577 : decode cL_law 577 = .ok (.iconst 1, 1) := by decide +kernel
theorem dL_law_578 : decode cL_law 578 = .ok (.iadd, 1) := by decide +kernel
theorem dL_law_579 : decode cL_law 579 = .ok (.iaload, 1) := by decide +kernel
theorem dL_law_580 : decode cL_law 580 = .ok (.invokevirtual 80, 3) := by decide +kernel
theorem dL_law_583 : decode cL_law 583 = .ok (.if_icmp .eq 127, 3) := by decide +kernel
theorem dL_law_586 : decode cL_law 586 = .ok (.iconst 0, 1) := by decide +kernel
theorem dL_law_587 : decode cL_law 587 = .ok (.ireturn, 1) := by decide +kernel
theorem dL_law_588 : decode cL_law 588 = .ok (.aload_n 1, 1) := by decide +kernel
theorem dL_law_589 : decode cL_law 589 = .ok (.aload_n 0, 1) := by decide +kernel
theorem dL_law_590 : decode cL_law 590 = .ok (.iload_n 3, 1) := by decide +kernel
theorem dL_law_591 : decode cL_law 591 = .ok (.iconst 1, 1) := by decide +kernel
theorem dL_law_592 : decode cL_law 592 = .ok (.iadd, 1) := by decide +kernel
theorem dL_law_593 : decode cL_law 593 = .ok (.iaload, 1) := by decide +kernel
theorem dL_law_594 : decode cL_law 594 = .ok (.invokevirtual 81, 3) := by decide +kernel
theorem dL_law_597 : decode cL_law 597 = .ok (.aload_n 2, 1) := by decide +kernel
theorem dL_law_598 : decode cL_law 598 = .ok (.aload_n 0, 1) := by decide +kernel
theorem dL_law_599 : decode cL_law 599 = .ok (.iload_n 3, 1) := by decide +kernel
theorem dL_law_600 : decode cL_law 600 = .ok (.iconst 1, 1) := by decide +kernel
theorem dL_law_601 : decode cL_law 601 = .ok (.iadd, 1) := by decide +kernel
theorem dL_law_602 : decode cL_law 602 = .ok (.iaload, 1) := by decide +kernel
theorem dL_law_603 : decode cL_law 603 = .ok (.invokevirtual 84, 3) := by decide +kernel
theorem dL_law_606 : decode cL_law 606 = .ok (.if_icmp .eq 104, 3) := by decide +kernel
theorem dL_law_609 : decode cL_law 609 = .ok (.iconst 0, 1) := by decide +kernel
theorem dL_law_610 : decode cL_law 610 = .ok (.ireturn, 1) := by decide +kernel
theorem dL_law_611 : decode cL_law 611 = .ok (.aload_n 1, 1) := by decide +kernel
theorem dL_law_612 : decode cL_law 612 = .ok (.invokevirtual 85, 3) := by decide +kernel
theorem dL_law_615 : decode cL_law 615 = .ok (.aload_n 2, 1) := by decide +kernel
theorem dL_law_616 : decode cL_law 616 = .ok (.invokevirtual 88, 3) := by decide +kernel
theorem dL_law_619 : decode cL_law 619 = .ok (.if_icmp .eq 91, 3) := by decide +kernel
theorem dL_law_622 : decode cL_law 622 = .ok (.iconst 0, 1) := by decide +kernel
theorem dL_law_623 : decode cL_law 623 = .ok (.ireturn, 1) := by decide +kernel
theorem dL_law_624 : decode cL_law 624 = .ok (.aload_n 1, 1) := by decide +kernel
theorem dL_law_625 : decode cL_law 625 = .ok (.invokevirtual 89, 3) := by decide +kernel
theorem dL_law_628 : decode cL_law 628 = .ok (.aload_n 2, 1) := by decide +kernel
theorem dL_law_629 : decode cL_law 629 = .ok (.invokevirtual 92, 3) := by decide +kernel
theorem dL_law_632 : decode cL_law 632 = .ok (.if_icmp .eq 78, 3) := by decide +kernel
theorem dL_law_635 : decode cL_law 635 = .ok (.iconst 0, 1) := by decide +kernel
theorem dL_law_636 : decode cL_law 636 = .ok (.ireturn, 1) := by decide +kernel
theorem dL_law_637 : decode cL_law 637 = .ok (.aload_n 1, 1) := by decide +kernel
theorem dL_law_638 : decode cL_law 638 = .ok (.aload_n 0, 1) := by decide +kernel
theorem dL_law_639 : decode cL_law 639 = .ok (.iload_n 3, 1) := by decide +kernel
theorem dL_law_640 : decode cL_law 640 = .ok (.iconst 1, 1) := by decide +kernel
theorem dL_law_641 : decode cL_law 641 = .ok (.iadd, 1) := by decide +kernel
theorem dL_law_642 : decode cL_law 642 = .ok (.iaload, 1) := by decide +kernel
theorem dL_law_643 : decode cL_law 643 = .ok (.invokevirtual 93, 3) := by decide +kernel
theorem dL_law_646 : decode cL_law 646 = .ok (.aload_n 2, 1) := by decide +kernel
theorem dL_law_647 : decode cL_law 647 = .ok (.aload_n 0, 1) := by decide +kernel
theorem dL_law_648 : decode cL_law 648 = .ok (.iload_n 3, 1) := by decide +kernel
theorem dL_law_649 : decode cL_law 649 = .ok (.iconst 1, 1) := by decide +kernel
theorem dL_law_650 : decode cL_law 650 = .ok (.iadd, 1) := by decide +kernel
theorem dL_law_651 : decode cL_law 651 = .ok (.iaload, 1) := by decide +kernel
theorem dL_law_652 : decode cL_law 652 = .ok (.invokevirtual 96, 3) := by decide +kernel
theorem dL_law_655 : decode cL_law 655 = .ok (.if_icmp .eq 55, 3) := by decide +kernel
theorem dL_law_658 : decode cL_law 658 = .ok (.iconst 0, 1) := by decide +kernel
theorem dL_law_659 : decode cL_law 659 = .ok (.ireturn, 1) := by decide +kernel
theorem dL_law_660 : decode cL_law 660 = .ok (.aload_n 1, 1) := by decide +kernel
theorem dL_law_661 : decode cL_law 661 = .ok (.invokevirtual 97, 3) := by decide +kernel
theorem dL_law_664 : decode cL_law 664 = .ok (.aload_n 2, 1) := by decide +kernel
theorem dL_law_665 : decode cL_law 665 = .ok (.invokevirtual 100, 3) := by decide +kernel
theorem dL_law_668 : decode cL_law 668 = .ok (.if_icmp .eq 42, 3) := by decide +kernel
theorem dL_law_671 : decode cL_law 671 = .ok (.iconst 0, 1) := by decide +kernel
theorem dL_law_672 : decode cL_law 672 = .ok (.ireturn, 1) := by decide +kernel
theorem dL_law_673 : decode cL_law 673 = .ok (.aload_n 1, 1) := by decide +kernel
theorem dL_law_674 : decode cL_law 674 = .ok (.aload_n 0, 1) := by decide +kernel
theorem dL_law_675 : decode cL_law 675 = .ok (.iload_n 3, 1) := by decide +kernel
theorem dL_law_676 : decode cL_law 676 = .ok (.iconst 1, 1) := by decide +kernel
theorem dL_law_677 : decode cL_law 677 = .ok (.iadd, 1) := by decide +kernel
theorem dL_law_678 : decode cL_law 678 = .ok (.iaload, 1) := by decide +kernel
theorem dL_law_679 : decode cL_law 679 = .ok (.invokevirtual 101, 3) := by decide +kernel
theorem dL_law_682 : decode cL_law 682 = .ok (.aload_n 2, 1) := by decide +kernel
theorem dL_law_683 : decode cL_law 683 = .ok (.aload_n 0, 1) := by decide +kernel
theorem dL_law_684 : decode cL_law 684 = .ok (.iload_n 3, 1) := by decide +kernel
theorem dL_law_685 : decode cL_law 685 = .ok (.iconst 1, 1) := by decide +kernel
theorem dL_law_686 : decode cL_law 686 = .ok (.iadd, 1) := by decide +kernel
theorem dL_law_687 : decode cL_law 687 = .ok (.iaload, 1) := by decide +kernel
theorem dL_law_688 : decode cL_law 688 = .ok (.invokevirtual 104, 3) := by decide +kernel
theorem dL_law_691 : decode cL_law 691 = .ok (.if_icmp .eq 19, 3) := by decide +kernel
theorem dL_law_694 : decode cL_law 694 = .ok (.iconst 0, 1) := by decide +kernel
theorem dL_law_695 : decode cL_law 695 = .ok (.ireturn, 1) := by decide +kernel
theorem dL_law_696 : decode cL_law 696 = .ok (.aload_n 1, 1) := by decide +kernel
theorem dL_law_697 : decode cL_law 697 = .ok (.invokevirtual 105, 3) := by decide +kernel
theorem dL_law_700 : decode cL_law 700 = .ok (.aload_n 2, 1) := by decide +kernel
theorem dL_law_701 : decode cL_law 701 = .ok (.invokevirtual 109, 3) := by decide +kernel
theorem dL_law_704 : decode cL_law 704 = .ok (.lcmp, 1) := by decide +kernel
theorem dL_law_705 : decode cL_law 705 = .ok (.ifCond .eq 5, 3) := by decide +kernel
theorem dL_law_708 : decode cL_law 708 = .ok (.iconst 0, 1) := by decide +kernel
theorem dL_law_709 : decode cL_law 709 = .ok (.ireturn, 1) := by decide +kernel
theorem dL_law_710 : decode cL_law 710 = .ok (.iinc 3 5, 3) := by decide +kernel
theorem dL_law_713 : decode cL_law 713 = .ok (.goto (-695), 3) := by decide +kernel
theorem dL_law_716 : decode cL_law 716 = .ok (.iconst 1, 1) := by decide +kernel
theorem dL_law_717 : decode cL_law 717 = .ok (.ireturn, 1) := by decide +kernel
end
section
/-! words that every method is given: all good words of the tables; the nest's links go beside them -/
def wBig : List Cond := lw_tbl.filter goodWord
theorem wB {w : Cond} (i : Nat) (h : lw_tbl[i]? = some w) (hg : goodWord w = true) : w ∈ wBig := List.mem_filter.mpr ⟨List.mem_of_getElem? h, hg⟩
theorem wBig_good {w : Cond} (h : w ∈ wBig) : goodWord w = true := (List.mem_filter.mp h).2
def isNest : Cond → Bool
  | .fieldLinkNest _ _ _ _ _ _ => true
  | .methodLinkNest _ _ _ _ => true
  | _ => false
def nsW : List Cond := tables_1.filter isNest
theorem nB {w : Cond} (i : Nat) (h : tables_1[i]? = some w) (hg : isNest w = true) : w ∈ nsW := List.mem_filter.mpr ⟨List.mem_of_getElem? h, hg⟩
theorem wGood {y : MethodName} {cc : ByteArray} {n : Nat} {ret : Option FieldType} (h : Cond.code y cc n ret ∈ wBig) : GoodIn wBig (Cond.code y cc n ret :: wBig) := by
  intro w hw
  rcases List.mem_cons.mp hw with rfl | hw
  · exact ⟨h, good_of_word (wBig_good h)⟩
  · exact ⟨hw, good_of_word (wBig_good hw)⟩
/-! the fixed things of a run: slots of fields, array classes, static rows, text constants -/
abbrev xCfg : Type := va_G × ClassId × ClassId × (Nat → Nat) × (Nat → Nat) × (Nat → Nat)
abbrev xTys (g : xCfg) : List (ClassId × FieldType) := [(g.2.1, .int), (g.2.2.1, .object RX4)]
def tFirst (k : Nat) : Int32 := [10, 6, 1, 20, 1, 3, 5].getD k 0
def tLeast (k : Nat) : Int32 := [1, 0, 1, 0, 0, 0, 0].getD k 0
def tMost (k : Nat) : Int32 := [60, 30, 30, 100, 9, 9, 9].getD k 0
def xLen : List Nat := [3, 4, 5, 6, 5, 4, 4, 5, 0]
def xByt : List (List Int32) := [[108, 101, 110], [99, 101, 105, 108], [103, 114, 97, 100, 101], [98, 101, 97, 99, 111, 110], [98, 114, 97, 107, 101], [112, 117, 108, 108], [108, 111, 110, 103], [101, 114, 114, 111, 114], []]
def xTx : List String := ["len", "ceil", "grade", "beacon", "brake", "pull", "long", "error", ""]
def xG (g : xCfg) (A : Nat → Prop) (U : State) (H : Heap) : Prop :=
  ((∀ w ∈ nsW, va_Nw w U) ∧ va_AO RX4 U ∧ ∀ i : Nat, i < 9 → vk_R RX3 (88 + 2 * i) (xTx.getD i "") (g.2.2.2.2.1 i) U) ∧
  ((va_Z RX5 "FIRST" "[I" (.ref (g.2.2.2.1 0)) A U H ∧ va_T .int (g.2.2.2.1 0) 7 (fun k => .int (tFirst k)) A U H) ∧
   (va_Z RX5 "LEAST" "[I" (.ref (g.2.2.2.1 1)) A U H ∧ va_T .int (g.2.2.2.1 1) 7 (fun k => .int (tLeast k)) A U H) ∧
   (va_Z RX5 "MOST" "[I" (.ref (g.2.2.2.1 2)) A U H ∧ va_T .int (g.2.2.2.1 2) 7 (fun k => .int (tMost k)) A U H) ∧
   va_Z "java/lang/String" "COMPACT_STRINGS" "Z" (.int 1) A U H ∧ va_Zq "jdk/internal/util/Preconditions" "SIOOBE_FORMATTER" "Ljava/util/function/BiFunction;" A U H ∧
   vk_S 9 xLen xByt g.2.2.2.2.1 g.2.2.2.2.2 A U H)
theorem nsW_warm {s U : State} (hW : s.WarmedH U.vm) (h : ∀ w ∈ nsW, va_Nw w s) : ∀ w ∈ nsW, va_Nw w U := by
  intro w hw
  have h1 := h w hw
  have h2 := (List.mem_filter.mp hw).2
  cases w <;> first | exact va_Nw.warmF hW h1 | exact va_Nw.warmM hW h1 | cases h2
theorem nsW_same {s U : State} (hv : s.vm = U.vm) (h : ∀ w ∈ nsW, va_Nw w s) : ∀ w ∈ nsW, va_Nw w U := by
  intro w hw
  have h1 := h w hw
  have h2 := (List.mem_filter.mp hw).2
  cases w <;> first | exact va_Nw.same rfl hv h1 | cases h2
theorem xG.heapPart {g : xCfg} {A : Nat → Prop} {s U : State} {H : Heap} (ha : s.vm.Alike U.vm) (h : xG g A s H) (h1 : (∀ w ∈ nsW, va_Nw w U) ∧ va_AO RX4 U ∧ ∀ i : Nat, i < 9 → vk_R RX3 (88 + 2 * i) (xTx.getD i "") (g.2.2.2.2.1 i) U) : xG g A U H := by
  obtain ⟨-, ⟨a1, a2⟩, ⟨b1, b2⟩, ⟨c1, c2⟩, d, e, f⟩ := h
  exact ⟨h1, ⟨a1.moved ha, a2.moved ha⟩, ⟨b1.moved ha, b2.moved ha⟩, ⟨c1.moved ha, c2.moved ha⟩, d.moved ha, e.moved ha, f.moved ha⟩
theorem xG.warm {g : xCfg} {A : Nat → Prop} {s U : State} {H : Heap} (hW : s.WarmedH U.vm) (h : xG g A s H) : xG g A U H :=
  h.heapPart hW.alike ⟨nsW_warm hW h.1.1, h.1.2.1.moved hW.alike, fun i hi => (h.1.2.2 i hi).warm hW⟩
theorem xG.same {g : xCfg} {A : Nat → Prop} {s U : State} {H : Heap} (hv : s.vm = U.vm) (h : xG g A s H) : xG g A U H := by
  have ha : s.vm.Alike U.vm := hv ▸ Vm.Alike.refl s.vm
  exact h.heapPart ha ⟨nsW_same hv h.1.1, h.1.2.1.moved ha, fun i hi => (h.1.2.2 i hi).same hv.symm⟩
theorem xG.kept {g : xCfg} {A : Nat → Prop} {U : State} {H H1 : Heap} (h : xG g A U H) (hq : ∀ a : Nat, a < H.size → ¬ A a → H1[a]? = H[a]?) : xG g A U H1 := by
  obtain ⟨h1, ⟨a1, a2⟩, ⟨b1, b2⟩, ⟨c1, c2⟩, d, e, f⟩ := h
  exact ⟨h1, ⟨a1.kept hq, a2.kept hq⟩, ⟨b1.kept hq, b2.kept hq⟩, ⟨c1.kept hq, c2.kept hq⟩, d.kept hq, e.kept hq, f.kept hq⟩
theorem xG.narrow {g : xCfg} {A B : Nat → Prop} {U : State} {H : Heap} (h : xG g A U H) (hq : ∀ q, B q → A q) : xG g B U H := by
  obtain ⟨h1, ⟨a1, a2⟩, ⟨b1, b2⟩, ⟨c1, c2⟩, d, e, f⟩ := h
  exact ⟨h1, ⟨a1.narrow hq, a2.narrow hq⟩, ⟨b1.narrow hq, b2.narrow hq⟩, ⟨c1.narrow hq, c2.narrow hq⟩, d.narrow hq, e.narrow hq, f.narrow hq⟩
/-! contracts -/
def xPre (g : xCfg) (w0 : va_W) (sz : Nat) (U : State) : Prop := U.heap.size = sz ∧ va_P g.1 vwCl w0 U.heap ∧ va_K g.1 vwCl (xTys g) U ∧ va_D (fun _ => True) w0 ∧ xG g (va_A w0 sz) U U.heap
def xQ (g : xCfg) (A : Nat → Prop) (post : Option Value → va_W → Prop) : Array Value → State → Outcome → State → Prop := fun _ st oc t =>
  (∃ (rv : Option Value) (w1 : va_W), oc = .returned rv ∧ post rv w1 ∧ va_P g.1 vwCl w1 t.heap ∧ va_K g.1 vwCl (xTys g) t ∧ va_D A w1) ∧ va_F A st t
def Ct (l : Launch) (g : xCfg) (y : MethodName) (cc : ByteArray) (nL : Nat) (ret : Option FieldType) (rm : Room) (av : List Value) (w0 : va_W) (post : Option Value → va_W → Prop) : Prop :=
  ∀ sz : Nat, Met l y (Cond.code y cc nL ret :: wBig) rm (va_Pc av (xPre g w0 sz)) (xQ g (va_A w0 sz) post) rm.cells rm.slots (va_A w0 sz)
abbrev is1 (rv : Option Value) (w1 : va_W) : Option Value → va_W → Prop := fun r w => r = rv ∧ w = w1
abbrev xR (fr lo : Nat) : Room := { frames := fr, cells := 0, slots := 0, locals := lo }
def xE (g : xCfg) (p : Program) (s : State) (m : MethodId) (args : Array Value) (meth : Method) (c : Code) (cc : ByteArray) (nL : Nat) (own : String) (A : Nat → Prop) : Prop :=
  CallFix p m c cc nL s args wBig own ∧ meth.locks = false ∧ (∀ q, s.heap.size ≤ q → A q) ∧ va_K g.1 vwCl (xTys g) s ∧ xG g A s s.heap
def xW (g : xCfg) (A : Nat → Prop) (s : State) (ws : va_W) (H : Heap) (locs : List Loc) : Prop := va_P g.1 vwCl ws H ∧ va_D A ws ∧ va_S A s.heap H locs
section XK
variable {l : Launch} {g : xCfg} {p : Program} {e : Env} {R : Room} {s : State} {m : MethodId} {args : Array Value} {below : List Frame} {meth : Method} {c : Code} {cc : ByteArray} {nL : Nat} {own : String} {A : Nat → Prop} {ws ws' : va_W} {H : Heap} {locs : List Loc} {cells slots : Nat} {Q : State → Prop} {pc : Nat} {ls : Array Slot} {rest : List Value}
theorem xE.x (E : xE g p s m args meth c cc nL own A) : p.tables.exec = Jvm.exec := E.1.1
theorem xE.b (E : xE g p s m args meth c cc nL own A) : c.code = cc := E.1.2.1
theorem xE.ml (E : xE g p s m args meth c cc nL own A) : c.maxLocals = nL := E.1.2.2.1
theorem xE.ow (E : xE g p s m args meth c cc nL own A) : s.vm.findClass own = some m.cls := E.1.2.2.2.1
theorem xE.ts (E : xE g p s m args meth c cc nL own A) : ∀ w ∈ wBig, w.before args s = true := E.1.2.2.2.2
theorem Ct.body {y : MethodName} {ret : Option FieldType} {rm : Room} {av : List Value} {w0 : va_W} {post : Option Value → va_W → Prop} (hy : plainName y.cls = true) (hn : (lg_sl av).length ≤ nL)
    (k : ∀ (p : Program) (e : Env) (s : State) (m : MethodId) (below : List Frame) (meth : Method) (c : Code) (A : Nat → Prop) (ls : Array Slot), xE g p s m av.toArray meth c cc nL y.cls A → meth.sig.returnType = ret → meth.name = y.name → xW g A s w0 s.heap [] → lv_has ls nL (lv_args 0 av) →
      W p l e rm s m av.toArray below meth c s.heap [] 0 0 (MQ below (xQ g A post) av.toArray s rm.cells rm.slots A) (F0 m 0 ls [])) : Ct l g y cc nL ret rm av w0 post := by
  intro sz
  refine Met.ofW (cc := cc) (maxL := nL) (ret := ret) hy rfl ?_
  intro p e s m args below meth c s₁ B hml hv
  obtain ⟨rfl, hsz, hP, hK, hD0, hG⟩ := hv
  have hts := atoms_spec (ws := Cond.code y cc nL ret :: wBig) B.pre
  subst hsz
  have hD := hD0.self (sz := s.heap.size)
  have hA : ∀ q : Nat, s.heap.size ≤ q → va_A w0 s.heap.size q := fun q h => Or.inr h
  have hl := lv_entry av (n := nL) hn
  rw [lg_entry_eq]
  exact k p e s m below meth c _ _ ⟨⟨B.exec, B.bytes, hml, findClass_of_methodNamed B.named, fun w h => hts w (List.mem_cons_of_mem _ h)⟩, B.notSynchronized, hA, hK, hG⟩ B.returns (name_of_methodNamed B.named B.method).1 ⟨hP, hD, va_S.rf⟩ hl
theorem xW.fin {post : Option Value → va_W → Prop} {rv : Option Value} {w1 : va_W} (E : xE g p s m args meth c cc nL own A) (hw : xW g A s w1 H locs) (hp : post rv w1) : ∀ t : State, t.heap = H → s.WarmedH t.vm → xQ g A post args s (.returned rv) t :=
  fun t ht hW => ⟨⟨rv, w1, rfl, hp, by rw [ht]; exact hw.1, va_K.moved hW.alike E.2.2.2.1, hw.2.1⟩, hw.2.2.F ht⟩
theorem x_iret {post : Option Value → va_W → Prop} {v : Int32} {w1 : va_W} (E : xE g p s m args meth c cc nL own A) (hr : meth.sig.returnType = some .int) (hw : xW g A s w1 H locs) (hdg : decode cc pc = .ok (.ireturn, 1)) (hp : post (some (.int v)) w1) : W p l e R s m args below meth c H locs cells slots (MQ below (xQ g A post) args s cells slots A) (F0 m pc ls [.int v]) :=
  W.iret (v := v) E.x E.b hr (hw.fin E hp) hw.2.2.2.2 hdg E.2.1
theorem x_zret {post : Option Value → va_W → Prop} {v : Int32} {w1 : va_W} (E : xE g p s m args meth c cc nL own A) (hr : meth.sig.returnType = some .boolean) (hw : xW g A s w1 H locs) (hdg : decode cc pc = .ok (.ireturn, 1)) (hv : v = 0 ∨ v = 1) (hp : post (some (.int v)) w1) : W p l e R s m args below meth c H locs cells slots (MQ below (xQ g A post) args s cells slots A) (F0 m pc ls [.int v]) :=
  W.zret (v := v) E.x E.b hr (by rcases hv with rfl | rfl <;> rfl) (hw.fin E hp) hw.2.2.2.2 hdg E.2.1
theorem x_vret {post : Option Value → va_W → Prop} {w1 : va_W} (E : xE g p s m args meth c cc nL own A) (hr : meth.sig.returnType = none) (hw : xW g A s w1 H locs) (hdg : decode cc pc = .ok (.return_, 1)) (hp : post none w1) : W p l e R s m args below meth c H locs cells slots (MQ below (xQ g A post) args s cells slots A) (F0 m pc ls []) :=
  W.vret E.x E.b hr (hw.fin E hp) hw.2.2.2.2 hdg E.2.1
theorem x_lret {post : Option Value → va_W → Prop} {v : Int64} {w1 : va_W} (E : xE g p s m args meth c cc nL own A) (hr : meth.sig.returnType = some .long) (hw : xW g A s w1 H locs) (hdg : decode cc pc = .ok (.lreturn, 1)) (hp : post (some (.long v)) w1) : W p l e R s m args below meth c H locs cells slots (MQ below (xQ g A post) args s cells slots A) (F0 m pc ls [.long v]) :=
  W.lret (v := v) E.x E.b hr (hw.fin E hp) hw.2.2.2.2 hdg E.2.1
theorem x_aret {post : Option Value → va_W → Prop} {a : Nat} {n : String} {w1 : va_W} (E : xE g p s m args meth c cc nL own A) (hr : meth.sig.returnType = some (.object n)) (hw : xW g A s w1 H locs) (hdg : decode cc pc = .ok (.areturn, 1)) (hp : post (some (.ref a)) w1) : W p l e R s m args below meth c H locs cells slots (MQ below (xQ g A post) args s cells slots A) (F0 m pc ls [.ref a]) :=
  W.aret (v := .ref a) E.x E.b hr (Or.inl ⟨n, rfl⟩) (Or.inr ⟨a, rfl⟩) (hw.fin E hp) hw.2.2.2.2 hdg E.2.1
/-! fields -/
def xFL (own : String) (index ci k : Nat) (C : String) (T : u_T) (N : Nat) : Prop := vwCl[ci]? = some (C, T, N) ∧ k < N ∧ (∀ w ∈ u_ws C T N, w ∈ wBig) ∧ Cond.fieldLink own index (T k).1 (T k).2.1 (T k).2.2.1 ∈ wBig
def xFN (own : String) (index ci k : Nat) (C : String) (T : u_T) (N : Nat) : Prop := vwCl[ci]? = some (C, T, N) ∧ k < N ∧ (∀ w ∈ u_ws C T N, w ∈ wBig) ∧ Cond.fieldLinkNest own index (T k).1 (T k).2.1 (T k).2.2.1 "SpeedWarden" ∈ nsW
def xFP (k : Nat) (T : u_T) (N : Nat) (ty0 : Nat → FieldType) (fin : Bool) : Prop := (∀ k, k < N → parseFieldDescriptor (T k).2.2.1 = some (ty0 k)) ∧ (∀ a, a < N → ∀ b, b < N → a ≠ b → (T a).2.1 ≠ (T b).2.1) ∧ (T k).2.2.2 = fin
variable {index ci k N : Nat} {C : String} {T : u_T} {ty0 : Nat → FieldType} {a : Nat} {fs : List Value} {v : Value}
theorem x_get (E : xE g p s m args meth c cc nL own A) (hw : xW g A s ws H locs) (f : xFL own index ci k C T N) (q0 : Nat) (he : ws[q0]? = some (a, .inr (ci, fs))) (hv : fs[k]? = some v) (hdg : decode cc pc = .ok (.getfield index, 3))
    (kk : W p l e R s m args below meth c H locs cells slots Q (F0 m (pc + 3) ls (v :: rest))) : W p l e R s m args below meth c H locs cells slots Q (F0 m pc ls (.ref a :: rest)) :=
  va_get (C := C) (T := T) (N := N) E.x E.b E.ts f.2.2.1 E.ow E.2.2.2.1 hw.1 q0 he f.1 k f.2.1 (E.ts _ f.2.2.2) (fun _ h => h) hv hdg kk
theorem x_getN (E : xE g p s m args meth c cc nL own A) (hw : xW g A s ws H locs) (f : xFN own index ci k C T N) (q0 : Nat) (he : ws[q0]? = some (a, .inr (ci, fs))) (hv : fs[k]? = some v) (hdg : decode cc pc = .ok (.getfield index, 3))
    (kk : W p l e R s m args below meth c H locs cells slots Q (F0 m (pc + 3) ls (v :: rest))) : W p l e R s m args below meth c H locs cells slots Q (F0 m pc ls (.ref a :: rest)) :=
  va_getN (C := C) (T := T) (N := N) E.x E.b E.ts f.2.2.1 E.ow E.2.2.2.1 hw.1 q0 he f.1 k f.2.1 ((E.2.2.2.2.1.1 _ f.2.2.2).use rfl) (fun _ h => h) hv hdg kk
theorem x_put (E : xE g p s m args meth c cc nL own A) (hw : xW g A s ws H locs) (f : xFL own index ci k C T N) (f2 : xFP k T N ty0 false) (q0 : Nat) (he : ws[q0]? = some (a, .inr (ci, fs))) {ty : FieldType} (hd : parseFieldDescriptor (T k).2.2.1 = some ty) (hn : narrow ty v = v) (hfit : fits ty v = true) (hl : k < fs.length) (hws : ws.set q0 (a, .inr (ci, fs.set k v)) = ws') (hdg : decode cc pc = .ok (.putfield index, 3))
    (kk : ∀ (H1 : Heap) (locs1 : List Loc), xW g A s ws' H1 locs1 → W p l e R s m args below meth c H1 locs1 cells slots Q (F0 m (pc + 3) ls rest)) : W p l e R s m args below meth c H locs cells slots Q (F0 m pc ls (v :: .ref a :: rest)) := by
  subst hws
  exact va_put (C := C) (T := T) (N := N) E.x E.b E.ts f.2.2.1 ty0 f2.1 f2.2.1 E.ow E.2.2.2.1 hw.1 hw.2.1 hw.2.2 q0 he f.1 k f.2.1 (E.ts _ f.2.2.2) (fun _ h => h) f2.2.2 hd hn hfit hl hdg (fun H1 l1 h1 h2 h3 => kk H1 l1 ⟨h1, h2, h3⟩)
theorem x_putN (E : xE g p s m args meth c cc nL own A) (hw : xW g A s ws H locs) (f : xFN own index ci k C T N) (f2 : xFP k T N ty0 false) (q0 : Nat) (he : ws[q0]? = some (a, .inr (ci, fs))) {ty : FieldType} (hd : parseFieldDescriptor (T k).2.2.1 = some ty) (hn : narrow ty v = v) (hfit : fits ty v = true) (hl : k < fs.length) (hws : ws.set q0 (a, .inr (ci, fs.set k v)) = ws') (hdg : decode cc pc = .ok (.putfield index, 3))
    (kk : ∀ (H1 : Heap) (locs1 : List Loc), xW g A s ws' H1 locs1 → W p l e R s m args below meth c H1 locs1 cells slots Q (F0 m (pc + 3) ls rest)) : W p l e R s m args below meth c H locs cells slots Q (F0 m pc ls (v :: .ref a :: rest)) := by
  subst hws
  exact va_putN (C := C) (T := T) (N := N) E.x E.b E.ts f.2.2.1 ty0 f2.1 f2.2.1 E.ow E.2.2.2.1 hw.1 hw.2.1 hw.2.2 q0 he f.1 k f.2.1 ((E.2.2.2.2.1.1 _ f.2.2.2).use rfl) (fun _ h => h) f2.2.2 hd hn hfit hl hdg (fun H1 l1 h1 h2 h3 => kk H1 l1 ⟨h1, h2, h3⟩)
theorem x_putF (E : xE g p s m args meth c cc nL own A) (hin : meth.name = "<init>") (hw : xW g A s ws H locs) (f : xFL own index ci k C T N) (f2 : xFP k T N ty0 true) (hdecl : (T k).1 = own) (q0 : Nat) (he : ws[q0]? = some (a, .inr (ci, fs))) {ty : FieldType} (hd : parseFieldDescriptor (T k).2.2.1 = some ty) (hn : narrow ty v = v) (hfit : fits ty v = true) (hl : k < fs.length) (hws : ws.set q0 (a, .inr (ci, fs.set k v)) = ws') (hdg : decode cc pc = .ok (.putfield index, 3))
    (kk : ∀ (H1 : Heap) (locs1 : List Loc), xW g A s ws' H1 locs1 → W p l e R s m args below meth c H1 locs1 cells slots Q (F0 m (pc + 3) ls rest)) : W p l e R s m args below meth c H locs cells slots Q (F0 m pc ls (v :: .ref a :: rest)) := by
  subst hws
  exact va_putF (C := C) (T := T) (N := N) E.x E.b E.ts f.2.2.1 ty0 f2.1 f2.2.1 E.ow E.2.2.2.1 hw.1 hw.2.1 hw.2.2 q0 he f.1 k f.2.1 (E.ts _ f.2.2.2) (fun _ h => h) f2.2.2 hin hdecl hd hn hfit hl hdg (fun H1 l1 h1 h2 h3 => kk H1 l1 ⟨h1, h2, h3⟩)
/-! int rows, by places that are plain numbers -/
theorem vp_in_n {n j : Nat} (h : j < n) (hn : n < 2 ^ 31) : vp_in (nI j) n := vp_in_nI h hn
theorem x_ild (E : xE g p s m args meth c cc nL own A) (hw : xW g A s ws H locs) (q0 : Nat) {n : Nat} {f : Nat → Int32} (he : ws[q0]? = some (a, .inl (g.2.1, n, .inl f))) {i : Int32} (j : Nat) (hi : i = nI j) (hj : j < n) (hn : n < 2 ^ 31) (hdg : decode cc pc = .ok (.iaload, 1))
    (kk : W p l e R s m args below meth c H locs cells slots Q (F0 m (pc + 1) ls (.int (f j) :: rest))) : W p l e R s m args below meth c H locs cells slots Q (F0 m pc ls (.int i :: .ref a :: rest)) := by
  subst hi
  refine va_iald E.x E.b E.2.2.2.1 hw.1 q0 0 he rfl (vp_in_nI hj hn) hdg ?_
  rw [nI_clamp (Nat.lt_trans hj hn)]
  exact kk
theorem x_ist (E : xE g p s m args meth c cc nL own A) (hw : xW g A s ws H locs) (q0 : Nat) {n : Nat} {f : Nat → Int32} (he : ws[q0]? = some (a, .inl (g.2.1, n, .inl f))) {i x : Int32} (j : Nat) (hi : i = nI j) (hj : j < n) (hn : n < 2 ^ 31) (hws : ws.set q0 (a, .inl (g.2.1, n, .inl (upd f j x))) = ws') (hdg : decode cc pc = .ok (.iastore, 1))
    (kk : ∀ (H1 : Heap) (locs1 : List Loc), xW g A s ws' H1 locs1 → W p l e R s m args below meth c H1 locs1 cells slots Q (F0 m (pc + 1) ls rest)) : W p l e R s m args below meth c H locs cells slots Q (F0 m pc ls (.int x :: .int i :: .ref a :: rest)) := by
  subst hi
  subst hws
  refine va_iast E.x E.b E.2.2.2.1 hw.1 hw.2.1 hw.2.2 q0 0 he rfl (vp_in_nI hj hn) hdg ?_
  rw [nI_clamp (Nat.lt_trans hj hn)]
  exact fun H1 l1 h1 h2 h3 => kk H1 l1 ⟨h1, h2, h3⟩
/-- a row's contents count only below its length -/
theorem vp_cell_congr {cA : ClassId} {n : Nat} {f f' : Nat → Int32} (h : ∀ j, j < n → f j = f' j) : vp_cell cA (n, .inl f) = vp_cell cA (n, .inl f') := by
  show arrV cA n (fun j => .int (f j)) = arrV cA n (fun j => .int (f' j))
  unfold arrV
  congr 1
  apply Array.ext
  · simp
  · intro i h1 h2
    simp only [Array.getElem_ofFn]
    rw [h i (by simpa using h1)]
theorem xW.arr (hw : xW g A s ws H locs) (q0 : Nat) {n : Nat} {f f' : Nat → Int32} (he : ws[q0]? = some (a, .inl (g.2.1, n, .inl f))) (h : ∀ j, j < n → f j = f' j) (hws : ws.set q0 (a, .inl (g.2.1, n, .inl f')) = ws') : xW g A s ws' H locs := by
  subst hws
  refine ⟨va_P.set hw.1 hw.2.1 he ?_ (fun _ _ => rfl), hw.2.1.set he, hw.2.2⟩
  have h1 := hw.1 q0 _ he
  show H[a]? = some (vp_cell g.2.1 (n, .inl f'))
  rw [← vp_cell_congr h]
  exact h1
end XK
end
section
/-! calls: the callee's cells are picked by their places, and come back there -/
def xput : va_W → List Nat → va_W → va_W
  | ws, i :: is, q :: qs => xput (ws.set i q) is qs
  | ws, _, _ => ws
theorem xput_get : ∀ (is : List Nat) (qs ws : va_W), is.length = qs.length → ∀ (k : Nat) (q : Nat × va_E), (xput ws is qs)[k]? = some q → (∃ j : Nat, is[j]? = some k ∧ qs[j]? = some q) ∨ (k ∉ is ∧ ws[k]? = some q)
  | [], [], ws, _, k, q, h => Or.inr ⟨by simp, h⟩
  | [], _ :: _, _, hl, _, _, _ => by simp at hl
  | _ :: _, [], _, hl, _, _, _ => by simp at hl
  | i :: is, q0 :: qs, ws, hl, k, q, h => by
    rcases xput_get is qs (ws.set i q0) (by simpa using hl) k q h with ⟨j, h1, h2⟩ | ⟨h1, h2⟩
    · exact Or.inl ⟨j + 1, h1, h2⟩
    · by_cases hk : k = i
      · subst hk
        have hlt : k < (ws.set k q0).length := (List.getElem?_eq_some_iff.mp h2).1
        rw [List.getElem?_set_self (by simpa using hlt)] at h2
        exact Or.inl ⟨0, rfl, h2⟩
      · rw [List.getElem?_set_ne (Ne.symm hk)] at h2
        exact Or.inr ⟨by simp [hk, h1], h2⟩
section XC
variable {l : Launch} {g : xCfg} {p : Program} {e : Env} {R : Room} {s : State} {m : MethodId} {args : Array Value} {below : List Frame} {meth : Method} {c : Code} {cc : ByteArray} {nL : Nat} {own : String} {A : Nat → Prop} {ws ws' : va_W} {H : Heap} {locs : List Loc} {cells slots : Nat} {Q : State → Prop} {pc : Nat} {ls : Array Slot} {rest : List Value}
theorem x_blind (g : xCfg) (av : List Value) (w0 : va_W) (sz : Nat) : FrameBlind (va_Pc av (xPre g w0 sz)) := by
  intro a U f mk h
  obtain ⟨h0, h1, h2, h3, h4, h5⟩ := h
  exact ⟨h0, h1, h2, va_K.moved (u := U) (U := U.calling f mk a) (Vm.Alike.refl U.vm) h3, h4, xG.same (s := U) (U := U.calling f mk a) rfl h5⟩
theorem x_pre (E : xE g p s m args meth c cc nL own A) (hw : xW g A s ws H locs) (isC : List Nat) {wc : va_W} (hC : isC.map (fun i => ws[i]?) = wc.map some) (hn : va_nd isC = true) (av : List Value) : ∀ U : State, U.heap = H → s.WarmedH U.vm → va_Pc av (xPre g wc H.size) av.toArray U := by
  intro U hU hW
  have hF := va_free (wc := wc) hw.2.1 hw.2.2 E.2.2.1 isC hC
  refine ⟨rfl, by rw [hU], ?_, va_K.moved hW.alike E.2.2.2.1, (hw.2.1.sub isC hn hC).weaken (fun _ _ _ _ => trivial), ?_⟩
  · rw [hU]
    refine hw.1.sub isC ?_
    have : ∀ (is : List Nat) (w : va_W), is.map (fun i => ws[i]?) = w.map some → is.filterMap (fun i => ws[i]?) = w := by
      intro is
      induction is with
      | nil => intro w h; cases w with
        | nil => rfl
        | cons _ _ => simp at h
      | cons i is ih =>
        intro w h
        cases w with
        | nil => simp at h
        | cons q w =>
          simp only [List.map_cons, List.cons.injEq] at h
          rw [List.filterMap_cons, h.1, ih w h.2]
    exact this isC wc hC
  · rw [hU]
    exact ((E.2.2.2.2.kept hw.2.2.2.1).narrow hF).warm hW
theorem xW.back {wc w1 : va_W} {H1 : Heap} {locs1 : List Loc} (hw : xW g A s ws H locs) (hA : ∀ q, s.heap.size ≤ q → A q) (isC : List Nat) (hC : isC.map (fun i => ws[i]?) = wc.map some) (ha : w1.map Prod.fst = wc.map Prod.fst)
    (hP1 : va_P g.1 vwCl w1 H1) (hD1 : va_D (va_A wc H.size) w1) (hk : ∀ q : Nat, q < H.size → ¬ va_A wc H.size q → H1[q]? = H[q]?) (hS1 : va_S A s.heap H1 locs1) : xW g A s (xput ws isC w1) H1 locs1 := by
  have hF := va_free (wc := wc) hw.2.1 hw.2.2 hA isC hC
  have hlen : isC.length = w1.length := by
    have h1 := congrArg List.length hC
    have h2 := congrArg List.length ha
    simp only [List.length_map] at h1 h2
    omega
  have at' : ∀ (k : Nat) (q : Nat × va_E), wc[k]? = some q → ∃ i, isC[k]? = some i ∧ ws[i]? = some q := by
    intro k q hq
    have h1 : (isC.map (fun i => ws[i]?))[k]? = some (some q) := by rw [hC, List.getElem?_map, hq]; rfl
    rw [List.getElem?_map] at h1
    cases hi : isC[k]? with
    | none => rw [hi] at h1; cases h1
    | some i => rw [hi] at h1; exact ⟨i, rfl, Option.some.inj h1⟩
  have adr : ∀ (k : Nat) (q : Nat × va_E), w1[k]? = some q → ∃ (i : Nat) (q' : Nat × va_E), isC[k]? = some i ∧ ws[i]? = some q' ∧ q'.1 = q.1 := by
    intro k q hq
    have h1 : (w1.map Prod.fst)[k]? = some q.1 := by rw [List.getElem?_map, hq]; rfl
    rw [ha, List.getElem?_map] at h1
    cases hc : wc[k]? with
    | none => rw [hc] at h1; cases h1
    | some q' =>
      rw [hc] at h1
      obtain ⟨i, h2, h3⟩ := at' k q' hc
      exact ⟨i, q', h2, h3, Option.some.inj h1⟩
  have apart : ∀ (k : Nat) (q : Nat × va_E), k ∉ isC → ws[k]? = some q → q.1 < H.size ∧ ¬ va_A wc H.size q.1 := by
    intro k q hk1 hq
    have hl := (hw.1 k q hq).lt
    refine ⟨hl, fun h => ?_⟩
    rcases h with ⟨k2, e, h⟩ | h
    · obtain ⟨j, h3, h4⟩ := at' k2 (q.1, e) h
      have hij := hw.2.1.1 k j q (q.1, e) hq h4 rfl
      subst hij
      exact hk1 (List.mem_of_getElem? h3)
    · omega
  refine ⟨fun k q hq => ?_, ⟨fun i j x y hi hj hxy => ?_, fun k q hq => ?_⟩, hS1⟩
  · rcases xput_get isC w1 ws hlen k q hq with ⟨j, -, h2⟩ | ⟨h1, h2⟩
    · exact hP1 j q h2
    · obtain ⟨g1, g2⟩ := apart k q h1 h2
      exact (hw.1 k q h2).kept (hk q.1 g1 g2)
  · rcases xput_get isC w1 ws hlen i x hi with ⟨a, h1, h2⟩ | ⟨h1, h2⟩ <;> rcases xput_get isC w1 ws hlen j y hj with ⟨b, h3, h4⟩ | ⟨h3, h4⟩
    · have hab := hD1.1 a b x y h2 h4 hxy
      subst hab
      rw [h1] at h3
      exact Option.some.inj h3
    · obtain ⟨i', q', z1, z2, z3⟩ := adr a x h2
      have hij := hw.2.1.1 i' j q' y z2 h4 (z3.trans hxy)
      subst hij
      exact absurd (List.mem_of_getElem? z1) h3
    · obtain ⟨i', q', z1, z2, z3⟩ := adr b y h4
      have hij := hw.2.1.1 i i' x q' h2 z2 (hxy.trans z3.symm)
      subst hij
      exact absurd (List.mem_of_getElem? z1) h1
    · exact hw.2.1.1 i j x y h2 h4 hxy
  · rcases xput_get isC w1 ws hlen k q hq with ⟨j, -, h2⟩ | ⟨h1, h2⟩
    · exact hF _ (hD1.2 j q h2)
    · exact hw.2.1.2 k q h2
theorem x_run {wc : va_W} {post : Option Value → va_W → Prop} {mc ms : Nat} {st0 : List Value} {a : Array Value} (E : xE g p s m args meth c cc nL own A) (hw : xW g A s ws H locs) (isC : List Nat) (hC : isC.map (fun i => ws[i]?) = wc.map some)
    (hr : va_Run p l e R s m args below meth c H locs cells slots mc ms (F0 m pc ls st0) rest (xQ g (va_A wc H.size) post a) (va_A wc H.size))
    (kk : ∀ (rv : Option Value) (w1 : va_W) (H1 : Heap) (locs1 : List Loc), post rv w1 → va_P g.1 vwCl w1 H1 → va_D (va_A wc H.size) w1 → (∀ q : Nat, q < H.size → ¬ va_A wc H.size q → H1[q]? = H[q]?) → va_S A s.heap H1 locs1 →
      W p l e R s m args below meth c H1 locs1 (cells + mc) (slots + ms) Q (F0 m (pc + 3) ls (rv.toList ++ rest))) : W p l e R s m args below meth c H locs cells slots Q (F0 m pc ls st0) := by
  have hF := va_free (wc := wc) hw.2.1 hw.2.2 E.2.2.1 isC hC
  have hS := hw.2.2
  intro T hT X
  obtain ⟨v, st₀, t, T', L, h0, X', hL, e1, e2, ⟨⟨rv, w1, hv, hp, hP1, hK1, hD1⟩, hz, hk⟩, st⟩ := hr T hT X
  cases hv
  rw [h0] at hz hk
  obtain ⟨t2, a1, b1⟩ := kk _ w1 T'.heap (locs ++ L) hp (by rw [e1]; exact hP1) hD1 (fun q h1 h2 => by rw [e1]; exact hk q h1 h2)
    ⟨Nat.le_trans hS.1 (by rw [e1]; exact hz), fun q h1 h2 => by rw [e1, hk q (Nat.lt_of_lt_of_le h1 hS.1) (fun z => h2 (hF q z))]; exact hS.2.1 q h1 h2, fun q hq => by
      rcases List.mem_append.mp hq with h | h
      · exact hS.2.2 q h
      · exact hF _ (hL q h)⟩ T' rfl X'
  exact ⟨t2, st t2 a1, b1⟩
/-- what a call's words are: kind 0 an own method, 1 an own static one -/
def xML (own : String) (index : Nat) (y : MethodName) (cc : ByteArray) (nL : Nat) (ret : Option FieldType) (n : Nat) : Prop :=
  Cond.code y cc nL ret ∈ wBig ∧ Cond.initialized y.cls ∈ wBig ∧ (y.cls ≠ "java/lang/invoke/MethodHandle" ∧ y.cls ≠ "java/lang/invoke/VarHandle" ∧ (parseMethodDescriptor y.desc).map (fun d => d.parameters.length) = some n) ∧ Cond.methodLink own index y ∈ wBig
def xMN (own : String) (index : Nat) (y : MethodName) (cc : ByteArray) (nL : Nat) (ret : Option FieldType) (n : Nat) : Prop :=
  Cond.code y cc nL ret ∈ wBig ∧ Cond.initialized y.cls ∈ wBig ∧ (y.cls ≠ "java/lang/invoke/MethodHandle" ∧ y.cls ≠ "java/lang/invoke/VarHandle" ∧ (parseMethodDescriptor y.desc).map (fun d => d.parameters.length) = some n) ∧ Cond.methodLinkNest own index y "SpeedWarden" ∈ nsW
def xMV (y : MethodName) (ci : Nat) (C : String) (T : u_T) (N : Nat) : Prop := vwCl[ci]? = some (C, T, N) ∧ Cond.instanceMethod y ∈ wBig ∧ Cond.selects C y y ∈ wBig
variable {y : MethodName} {yc : ByteArray} {yn n : Nat} {yr : Option FieldType} {rm : Room} {index : Nat} {post : Option Value → va_W → Prop} {wc : va_W} {b : Nat} {As st0 st1 : List Value} {ci : Nat} {C : String} {T : u_T} {N : Nat} {fs : List Value}
theorem x_runV (E : xE g p s m args meth c cc nL own A) (hw : xW g A s ws H locs) (hM : Ct l g y yc yn yr rm (.ref b :: As) wc post) (k1 : xML own index y yc yn yr n) (k2 : xMV y ci C T N) (isC : List Nat) (hC : isC.map (fun i => ws[i]?) = wc.map some) (hnd : va_nd isC = true) (q0 : Nat) (he : ws[q0]? = some (b, .inr (ci, fs)))
    (hls : ls.size = nL) (hst : st0 = As.reverse ++ .ref b :: rest) (hn : As.length = n) (h8 : (rest.map fun v => v.category).sum ≤ 8) (hR : rm.frames + 1 ≤ R.frames ∧ 8 + (yn + 11) + rm.locals ≤ R.locals) (hf : cells + rm.cells ≤ R.cells ∧ slots + rm.slots ≤ R.slots) (hdg : decode cc pc = .ok (.invokevirtual index, 3)) :
    va_Run p l e R s m args below meth c H locs cells slots rm.cells rm.slots (F0 m pc ls st0) rest (xQ g (va_A wc H.size) post (Value.ref b :: As).toArray) (va_A wc H.size) :=
  va_runV (C := C) (n := n) E.1 (hM H.size) ⟨callB_of n E.ts (wGood k1.1) rfl rfl rfl (E.ts _ k1.2.1) (E.ts _ k1.2.2.2) k1.2.2.1 hR, E.ts _ k2.2.1, E.ts _ k2.2.2⟩ ⟨x_blind g _ _ _, va_recv E.2.2.2.1 hw.1 k2.1 he, x_pre E hw isC hC hnd _⟩ rfl hn hls hst (lv_room h8) hdg hf
theorem x_runVN (E : xE g p s m args meth c cc nL own A) (hw : xW g A s ws H locs) (hM : Ct l g y yc yn yr rm (.ref b :: As) wc post) (k1 : xMN own index y yc yn yr n) (k2 : xMV y ci C T N) (isC : List Nat) (hC : isC.map (fun i => ws[i]?) = wc.map some) (hnd : va_nd isC = true) (q0 : Nat) (he : ws[q0]? = some (b, .inr (ci, fs)))
    (hls : ls.size = nL) (hst : st0 = As.reverse ++ .ref b :: rest) (hn : As.length = n) (h8 : (rest.map fun v => v.category).sum ≤ 8) (hR : rm.frames + 1 ≤ R.frames ∧ 8 + (yn + 11) + rm.locals ≤ R.locals) (hf : cells + rm.cells ≤ R.cells ∧ slots + rm.slots ≤ R.slots) (hdg : decode cc pc = .ok (.invokevirtual index, 3)) :
    va_Run p l e R s m args below meth c H locs cells slots rm.cells rm.slots (F0 m pc ls st0) rest (xQ g (va_A wc H.size) post (Value.ref b :: As).toArray) (va_A wc H.size) :=
  va_runVN (C := C) (n := n) E.1 (hM H.size) ⟨va_cnB n E.ts (wGood k1.1) rfl rfl rfl (E.2.2.2.2.1.1 _ k1.2.2.2) (E.ts _ k1.2.1) k1.2.2.1 hR, E.ts _ k2.2.1, E.ts _ k2.2.2⟩ ⟨x_blind g _ _ _, va_recv E.2.2.2.1 hw.1 k2.1 he, x_pre E hw isC hC hnd _⟩ rfl hn hls hst (lv_room h8) hdg hf
theorem x_runS (E : xE g p s m args meth c cc nL own A) (hw : xW g A s ws H locs) (hM : Ct l g y yc yn yr rm As wc post) (k1 : xML own index y yc yn yr n) (k2 : Cond.static y ∈ wBig) (isC : List Nat) (hC : isC.map (fun i => ws[i]?) = wc.map some) (hnd : va_nd isC = true)
    (hls : ls.size = nL) (hst : st0 = As.reverse ++ rest) (hn : As.length = n) (h8 : (rest.map fun v => v.category).sum ≤ 8) (hR : rm.frames + 1 ≤ R.frames ∧ 8 + (yn + 11) + rm.locals ≤ R.locals) (hf : cells + rm.cells ≤ R.cells ∧ slots + rm.slots ≤ R.slots) (hdg : decode cc pc = .ok (.invokestatic index, 3)) :
    va_Run p l e R s m args below meth c H locs cells slots rm.cells rm.slots (F0 m pc ls st0) rest (xQ g (va_A wc H.size) post As.toArray) (va_A wc H.size) :=
  va_runS (n := n) E.1 (hM H.size) ⟨callB_of n E.ts (wGood k1.1) rfl rfl rfl (E.ts _ k1.2.1) (E.ts _ k1.2.2.2) k1.2.2.1 hR, E.ts _ k2⟩ ⟨x_blind g _ _ _, x_pre E hw isC hC hnd _⟩ rfl hn hls hst (lv_room h8) hdg hf
theorem x_runSN (E : xE g p s m args meth c cc nL own A) (hw : xW g A s ws H locs) (hM : Ct l g y yc yn yr rm As wc post) (k1 : xMN own index y yc yn yr n) (k2 : Cond.static y ∈ wBig) (isC : List Nat) (hC : isC.map (fun i => ws[i]?) = wc.map some) (hnd : va_nd isC = true)
    (hls : ls.size = nL) (hst : st0 = As.reverse ++ rest) (hn : As.length = n) (h8 : (rest.map fun v => v.category).sum ≤ 8) (hR : rm.frames + 1 ≤ R.frames ∧ 8 + (yn + 11) + rm.locals ≤ R.locals) (hf : cells + rm.cells ≤ R.cells ∧ slots + rm.slots ≤ R.slots) (hdg : decode cc pc = .ok (.invokestatic index, 3)) :
    va_Run p l e R s m args below meth c H locs cells slots rm.cells rm.slots (F0 m pc ls st0) rest (xQ g (va_A wc H.size) post As.toArray) (va_A wc H.size) :=
  va_runSN (n := n) E.1 (hM H.size) ⟨va_cnB n E.ts (wGood k1.1) rfl rfl rfl (E.2.2.2.2.1.1 _ k1.2.2.2) (E.ts _ k1.2.1) k1.2.2.1 hR, E.ts _ k2, trivial⟩ ⟨x_blind g _ _ _, x_pre E hw isC hC hnd _⟩ rfl hn hls hst (lv_room h8) hdg hf
/-- behind a call that makes nothing: the answer is known, the cells are in their places -/
theorem x_go {rv : Option Value} {w1 : va_W} {a : Array Value} (E : xE g p s m args meth c cc nL own A) (hw : xW g A s ws H locs) (isC : List Nat) (hC : isC.map (fun i => ws[i]?) = wc.map some)
    (hr : va_Run p l e R s m args below meth c H locs cells slots 0 0 (F0 m pc ls st0) rest (xQ g (va_A wc H.size) (is1 rv w1) a) (va_A wc H.size)) (ha : w1.map Prod.fst = wc.map Prod.fst) (hws : xput ws isC w1 = ws') (hst : rv.toList ++ rest = st1)
    (kk : ∀ (H1 : Heap) (locs1 : List Loc), xW g A s ws' H1 locs1 → W p l e R s m args below meth c H1 locs1 cells slots Q (F0 m (pc + 3) ls st1)) : W p l e R s m args below meth c H locs cells slots Q (F0 m pc ls st0) := by
  subst hws
  subst hst
  refine x_run E hw isC hC hr ?_
  intro rv' w1' H1 locs1 hp hP1 hD1 hk hS1
  obtain ⟨rfl, rfl⟩ := hp
  exact kk H1 locs1 (hw.back E.2.2.1 isC hC ha hP1 hD1 hk hS1)
/-- the same for a contract that leaves some of it open -/
theorem x_goP {a : Array Value} {mc ms : Nat} (E : xE g p s m args meth c cc nL own A) (hw : xW g A s ws H locs) (isC : List Nat) (hC : isC.map (fun i => ws[i]?) = wc.map some)
    (hr : va_Run p l e R s m args below meth c H locs cells slots mc ms (F0 m pc ls st0) rest (xQ g (va_A wc H.size) post a) (va_A wc H.size)) (ha : ∀ rv w1, post rv w1 → w1.map Prod.fst = wc.map Prod.fst)
    (kk : ∀ (rv : Option Value) (w1 : va_W) (H1 : Heap) (locs1 : List Loc), post rv w1 → xW g A s (xput ws isC w1) H1 locs1 → W p l e R s m args below meth c H1 locs1 (cells + mc) (slots + ms) Q (F0 m (pc + 3) ls (rv.toList ++ rest))) : W p l e R s m args below meth c H locs cells slots Q (F0 m pc ls st0) := by
  refine x_run E hw isC hC hr ?_
  intro rv' w1' H1 locs1 hp hP1 hD1 hk hS1
  exact kk rv' w1' H1 locs1 hp (hw.back E.2.2.1 isC hC (ha _ _ hp) hP1 hD1 hk hS1)
def xMM (own : String) (index : Nat) (y : MethodName) (cc : ByteArray) : Prop := Cond.methodLink own index y ∈ wBig ∧ Cond.static y ∈ wBig ∧ Cond.initialized "java/lang/Math" ∈ wBig ∧ Cond.code y cc 2 (some .int) ∈ wBig
theorem x_max (E : xE g p s m args meth c cc nL own A) (k1 : xMM own index Lib.Math.max.name Lib.Math.max.code) (hls : ls.size = nL) {x y : Int32} (hfr : 1 ≤ R.frames) (hlo : (rest.map fun v => v.category).sum + 13 ≤ R.locals) (hc : cells ≤ R.cells ∧ slots ≤ R.slots) (hdg : decode cc pc = .ok (.invokestatic index, 3))
    (kk : W p l e R s m args below meth c H locs cells slots Q (F0 m (pc + 3) ls (.int (if x < y then y else x) :: rest))) : W p l e R s m args below meth c H locs cells slots Q (F0 m pc ls (.int y :: .int x :: rest)) :=
  va_mmax E.x E.b (E.ml.trans hls.symm) E.ow (E.ts _ k1.1) (E.ts _ k1.2.1) (E.ts _ k1.2.2.1) (E.ts _ k1.2.2.2) hfr hlo hc.1 hc.2 hdg kk
theorem x_min (E : xE g p s m args meth c cc nL own A) (k1 : xMM own index Lib.Math.min.name Lib.Math.min.code) (hls : ls.size = nL) {x y : Int32} (hfr : 1 ≤ R.frames) (hlo : (rest.map fun v => v.category).sum + 13 ≤ R.locals) (hc : cells ≤ R.cells ∧ slots ≤ R.slots) (hdg : decode cc pc = .ok (.invokestatic index, 3))
    (kk : W p l e R s m args below meth c H locs cells slots Q (F0 m (pc + 3) ls (.int (if y < x then y else x) :: rest))) : W p l e R s m args below meth c H locs cells slots Q (F0 m pc ls (.int y :: .int x :: rest)) :=
  va_mmin E.x E.b (E.ml.trans hls.symm) E.ow (E.ts _ k1.1) (E.ts _ k1.2.1) (E.ts _ k1.2.2.1) (E.ts _ k1.2.2.2) hfr hlo hc.1 hc.2 hdg kk
end XC
end
section
set_option maxRecDepth 100000 in
theorem kc_X0 : ∀ w ∈ u_ws RX0 TX0 2, w ∈ wBig := by decide +kernel
theorem kp_X0_0 : xFP 0 TX0 2 tyX0 true := ⟨tyX0_ok, nmX0, rfl⟩
theorem kp_X0_1 : xFP 1 TX0 2 tyX0 true := ⟨tyX0_ok, nmX0, rfl⟩
set_option maxRecDepth 100000 in
theorem kc_X1 : ∀ w ∈ u_ws RX1 TX1 3, w ∈ wBig := by decide +kernel
theorem kp_X1_0 : xFP 0 TX1 3 tyX1 true := ⟨tyX1_ok, nmX1, rfl⟩
theorem kp_X1_1 : xFP 1 TX1 3 tyX1 false := ⟨tyX1_ok, nmX1, rfl⟩
theorem kp_X1_2 : xFP 2 TX1 3 tyX1 false := ⟨tyX1_ok, nmX1, rfl⟩
set_option maxRecDepth 100000 in
theorem kc_X2 : ∀ w ∈ u_ws RX2 TX2 4, w ∈ wBig := by decide +kernel
theorem kp_X2_0 : xFP 0 TX2 4 tyX2 true := ⟨tyX2_ok, nmX2, rfl⟩
theorem kp_X2_1 : xFP 1 TX2 4 tyX2 true := ⟨tyX2_ok, nmX2, rfl⟩
theorem kp_X2_2 : xFP 2 TX2 4 tyX2 true := ⟨tyX2_ok, nmX2, rfl⟩
theorem kp_X2_3 : xFP 3 TX2 4 tyX2 true := ⟨tyX2_ok, nmX2, rfl⟩
set_option maxRecDepth 100000 in
theorem kc_X3 : ∀ w ∈ u_ws RX3 TX3 8, w ∈ wBig := by decide +kernel
theorem kp_X3_0 : xFP 0 TX3 8 tyX3 true := ⟨tyX3_ok, nmX3, rfl⟩
theorem kp_X3_1 : xFP 1 TX3 8 tyX3 false := ⟨tyX3_ok, nmX3, rfl⟩
theorem kp_X3_2 : xFP 2 TX3 8 tyX3 false := ⟨tyX3_ok, nmX3, rfl⟩
theorem kp_X3_3 : xFP 3 TX3 8 tyX3 false := ⟨tyX3_ok, nmX3, rfl⟩
theorem kp_X3_4 : xFP 4 TX3 8 tyX3 false := ⟨tyX3_ok, nmX3, rfl⟩
theorem kp_X3_5 : xFP 5 TX3 8 tyX3 false := ⟨tyX3_ok, nmX3, rfl⟩
theorem kp_X3_6 : xFP 6 TX3 8 tyX3 true := ⟨tyX3_ok, nmX3, rfl⟩
theorem kp_X3_7 : xFP 7 TX3 8 tyX3 true := ⟨tyX3_ok, nmX3, rfl⟩
set_option maxRecDepth 100000 in
theorem kc_X4 : ∀ w ∈ u_ws RX4 TX4 2, w ∈ wBig := by decide +kernel
theorem kp_X4_0 : xFP 0 TX4 2 tyX4 true := ⟨tyX4_ok, nmX4, rfl⟩
theorem kp_X4_1 : xFP 1 TX4 2 tyX4 true := ⟨tyX4_ok, nmX4, rfl⟩
set_option maxRecDepth 100000 in
theorem kc_X5 : ∀ w ∈ u_ws RX5 TX5 5, w ∈ wBig := by decide +kernel
theorem kp_X5_0 : xFP 0 TX5 5 tyX5 false := ⟨tyX5_ok, nmX5, rfl⟩
theorem kp_X5_1 : xFP 1 TX5 5 tyX5 true := ⟨tyX5_ok, nmX5, rfl⟩
theorem kp_X5_2 : xFP 2 TX5 5 tyX5 true := ⟨tyX5_ok, nmX5, rfl⟩
theorem kp_X5_3 : xFP 3 TX5 5 tyX5 true := ⟨tyX5_ok, nmX5, rfl⟩
theorem kp_X5_4 : xFP 4 TX5 5 tyX5 true := ⟨tyX5_ok, nmX5, rfl⟩
set_option maxRecDepth 100000 in
theorem kc_X6 : ∀ w ∈ u_ws RX6 TX6 8, w ∈ wBig := by decide +kernel
theorem kp_X6_0 : xFP 0 TX6 8 tyX6 false := ⟨tyX6_ok, nmX6, rfl⟩
theorem kp_X6_1 : xFP 1 TX6 8 tyX6 false := ⟨tyX6_ok, nmX6, rfl⟩
theorem kp_X6_2 : xFP 2 TX6 8 tyX6 false := ⟨tyX6_ok, nmX6, rfl⟩
theorem kp_X6_3 : xFP 3 TX6 8 tyX6 false := ⟨tyX6_ok, nmX6, rfl⟩
theorem kp_X6_4 : xFP 4 TX6 8 tyX6 false := ⟨tyX6_ok, nmX6, rfl⟩
theorem kp_X6_5 : xFP 5 TX6 8 tyX6 false := ⟨tyX6_ok, nmX6, rfl⟩
theorem kp_X6_6 : xFP 6 TX6 8 tyX6 false := ⟨tyX6_ok, nmX6, rfl⟩
theorem kp_X6_7 : xFP 7 TX6 8 tyX6 false := ⟨tyX6_ok, nmX6, rfl⟩
set_option maxRecDepth 100000 in
theorem kc_X7 : ∀ w ∈ u_ws RX7 TX7 8, w ∈ wBig := by decide +kernel
theorem kp_X7_0 : xFP 0 TX7 8 tyX7 true := ⟨tyX7_ok, nmX7, rfl⟩
theorem kp_X7_1 : xFP 1 TX7 8 tyX7 true := ⟨tyX7_ok, nmX7, rfl⟩
theorem kp_X7_2 : xFP 2 TX7 8 tyX7 true := ⟨tyX7_ok, nmX7, rfl⟩
theorem kp_X7_3 : xFP 3 TX7 8 tyX7 false := ⟨tyX7_ok, nmX7, rfl⟩
theorem kp_X7_4 : xFP 4 TX7 8 tyX7 false := ⟨tyX7_ok, nmX7, rfl⟩
theorem kp_X7_5 : xFP 5 TX7 8 tyX7 false := ⟨tyX7_ok, nmX7, rfl⟩
theorem kp_X7_6 : xFP 6 TX7 8 tyX7 false := ⟨tyX7_ok, nmX7, rfl⟩
theorem kp_X7_7 : xFP 7 TX7 8 tyX7 false := ⟨tyX7_ok, nmX7, rfl⟩
set_option maxRecDepth 100000 in
theorem kc_X8 : ∀ w ∈ u_ws RX8 TX8 17, w ∈ wBig := by decide +kernel
theorem kp_X8_0 : xFP 0 TX8 17 tyX8 true := ⟨tyX8_ok, nmX8, rfl⟩
theorem kp_X8_1 : xFP 1 TX8 17 tyX8 true := ⟨tyX8_ok, nmX8, rfl⟩
theorem kp_X8_2 : xFP 2 TX8 17 tyX8 false := ⟨tyX8_ok, nmX8, rfl⟩
theorem kp_X8_3 : xFP 3 TX8 17 tyX8 false := ⟨tyX8_ok, nmX8, rfl⟩
theorem kp_X8_4 : xFP 4 TX8 17 tyX8 false := ⟨tyX8_ok, nmX8, rfl⟩
theorem kp_X8_5 : xFP 5 TX8 17 tyX8 false := ⟨tyX8_ok, nmX8, rfl⟩
theorem kp_X8_6 : xFP 6 TX8 17 tyX8 false := ⟨tyX8_ok, nmX8, rfl⟩
theorem kp_X8_7 : xFP 7 TX8 17 tyX8 false := ⟨tyX8_ok, nmX8, rfl⟩
theorem kp_X8_8 : xFP 8 TX8 17 tyX8 true := ⟨tyX8_ok, nmX8, rfl⟩
theorem kp_X8_9 : xFP 9 TX8 17 tyX8 true := ⟨tyX8_ok, nmX8, rfl⟩
theorem kp_X8_10 : xFP 10 TX8 17 tyX8 false := ⟨tyX8_ok, nmX8, rfl⟩
theorem kp_X8_11 : xFP 11 TX8 17 tyX8 false := ⟨tyX8_ok, nmX8, rfl⟩
theorem kp_X8_12 : xFP 12 TX8 17 tyX8 false := ⟨tyX8_ok, nmX8, rfl⟩
theorem kp_X8_13 : xFP 13 TX8 17 tyX8 false := ⟨tyX8_ok, nmX8, rfl⟩
theorem kp_X8_14 : xFP 14 TX8 17 tyX8 false := ⟨tyX8_ok, nmX8, rfl⟩
theorem kp_X8_15 : xFP 15 TX8 17 tyX8 true := ⟨tyX8_ok, nmX8, rfl⟩
theorem kp_X8_16 : xFP 16 TX8 17 tyX8 true := ⟨tyX8_ok, nmX8, rfl⟩
set_option maxRecDepth 100000 in
theorem kf_X5_27 : xFL RX5 27 5 0 RX5 TX5 5 := ⟨rfl, by decide, kc_X5, wB 147 rfl rfl⟩
set_option maxRecDepth 100000 in
theorem kf_X0_24 : xFN RX0 24 5 0 RX5 TX5 5 := ⟨rfl, by decide, kc_X5, nB 48 rfl rfl⟩
set_option maxRecDepth 100000 in
theorem kf_X2_74 : xFN RX2 74 5 0 RX5 TX5 5 := ⟨rfl, by decide, kc_X5, nB 49 rfl rfl⟩
set_option maxRecDepth 100000 in
theorem kf_X7_180 : xFN RX7 180 5 0 RX5 TX5 5 := ⟨rfl, by decide, kc_X5, nB 50 rfl rfl⟩
set_option maxRecDepth 100000 in
theorem kf_X5_11 : xFL RX5 11 5 1 RX5 TX5 5 := ⟨rfl, by decide, kc_X5, wB 151 rfl rfl⟩
set_option maxRecDepth 100000 in
theorem kf_X0_44 : xFN RX0 44 5 1 RX5 TX5 5 := ⟨rfl, by decide, kc_X5, nB 52 rfl rfl⟩
set_option maxRecDepth 100000 in
theorem kf_X2_58 : xFN RX2 58 5 1 RX5 TX5 5 := ⟨rfl, by decide, kc_X5, nB 53 rfl rfl⟩
set_option maxRecDepth 100000 in
theorem kf_X5_15 : xFL RX5 15 5 2 RX5 TX5 5 := ⟨rfl, by decide, kc_X5, wB 154 rfl rfl⟩
set_option maxRecDepth 100000 in
theorem kf_X2_62 : xFN RX2 62 5 2 RX5 TX5 5 := ⟨rfl, by decide, kc_X5, nB 55 rfl rfl⟩
set_option maxRecDepth 100000 in
theorem kf_X5_18 : xFL RX5 18 5 3 RX5 TX5 5 := ⟨rfl, by decide, kc_X5, wB 156 rfl rfl⟩
set_option maxRecDepth 100000 in
theorem kf_X2_65 : xFN RX2 65 5 3 RX5 TX5 5 := ⟨rfl, by decide, kc_X5, nB 57 rfl rfl⟩
set_option maxRecDepth 100000 in
theorem kf_X6_45 : xFN RX6 45 5 3 RX5 TX5 5 := ⟨rfl, by decide, kc_X5, nB 58 rfl rfl⟩
set_option maxRecDepth 100000 in
theorem kf_X5_24 : xFL RX5 24 5 4 RX5 TX5 5 := ⟨rfl, by decide, kc_X5, wB 159 rfl rfl⟩
set_option maxRecDepth 100000 in
theorem kf_X0_38 : xFN RX0 38 5 4 RX5 TX5 5 := ⟨rfl, by decide, kc_X5, nB 60 rfl rfl⟩
set_option maxRecDepth 100000 in
theorem kf_X6_39 : xFN RX6 39 5 4 RX5 TX5 5 := ⟨rfl, by decide, kc_X5, nB 61 rfl rfl⟩
set_option maxRecDepth 100000 in
theorem kf_X2_117 : xFN RX2 117 5 4 RX5 TX5 5 := ⟨rfl, by decide, kc_X5, nB 62 rfl rfl⟩
set_option maxRecDepth 100000 in
theorem kf_X7_201 : xFN RX7 201 5 4 RX5 TX5 5 := ⟨rfl, by decide, kc_X5, nB 63 rfl rfl⟩
set_option maxRecDepth 100000 in
theorem kf_X6_9 : xFL RX6 9 6 0 RX6 TX6 8 := ⟨rfl, by decide, kc_X6, wB 182 rfl rfl⟩
set_option maxRecDepth 100000 in
theorem kf_X2_108 : xFN RX2 108 6 0 RX6 TX6 8 := ⟨rfl, by decide, kc_X6, nB 83 rfl rfl⟩
set_option maxRecDepth 100000 in
theorem kf_X6_15 : xFL RX6 15 6 1 RX6 TX6 8 := ⟨rfl, by decide, kc_X6, wB 184 rfl rfl⟩
set_option maxRecDepth 100000 in
theorem kf_X2_101 : xFN RX2 101 6 1 RX6 TX6 8 := ⟨rfl, by decide, kc_X6, nB 85 rfl rfl⟩
set_option maxRecDepth 100000 in
theorem kf_X6_18 : xFL RX6 18 6 2 RX6 TX6 8 := ⟨rfl, by decide, kc_X6, wB 186 rfl rfl⟩
set_option maxRecDepth 100000 in
theorem kf_X2_91 : xFN RX2 91 6 2 RX6 TX6 8 := ⟨rfl, by decide, kc_X6, nB 87 rfl rfl⟩
set_option maxRecDepth 100000 in
theorem kf_X6_21 : xFL RX6 21 6 3 RX6 TX6 8 := ⟨rfl, by decide, kc_X6, wB 188 rfl rfl⟩
set_option maxRecDepth 100000 in
theorem kf_X2_140 : xFN RX2 140 6 3 RX6 TX6 8 := ⟨rfl, by decide, kc_X6, nB 89 rfl rfl⟩
set_option maxRecDepth 100000 in
theorem kf_X6_24 : xFL RX6 24 6 4 RX6 TX6 8 := ⟨rfl, by decide, kc_X6, wB 190 rfl rfl⟩
set_option maxRecDepth 100000 in
theorem kf_X2_146 : xFN RX2 146 6 4 RX6 TX6 8 := ⟨rfl, by decide, kc_X6, nB 91 rfl rfl⟩
set_option maxRecDepth 100000 in
theorem kf_X6_27 : xFL RX6 27 6 5 RX6 TX6 8 := ⟨rfl, by decide, kc_X6, wB 192 rfl rfl⟩
set_option maxRecDepth 100000 in
theorem kf_X2_123 : xFN RX2 123 6 5 RX6 TX6 8 := ⟨rfl, by decide, kc_X6, nB 93 rfl rfl⟩
set_option maxRecDepth 100000 in
theorem kf_X6_30 : xFL RX6 30 6 6 RX6 TX6 8 := ⟨rfl, by decide, kc_X6, wB 194 rfl rfl⟩
set_option maxRecDepth 100000 in
theorem kf_X2_114 : xFN RX2 114 6 6 RX6 TX6 8 := ⟨rfl, by decide, kc_X6, nB 95 rfl rfl⟩
set_option maxRecDepth 100000 in
theorem kf_X6_33 : xFL RX6 33 6 7 RX6 TX6 8 := ⟨rfl, by decide, kc_X6, wB 196 rfl rfl⟩
set_option maxRecDepth 100000 in
theorem kf_X2_152 : xFN RX2 152 6 7 RX6 TX6 8 := ⟨rfl, by decide, kc_X6, nB 97 rfl rfl⟩
set_option maxRecDepth 100000 in
theorem kf_X4_10 : xFL RX4 10 4 0 RX4 TX4 2 := ⟨rfl, by decide, kc_X4, wB 215 rfl rfl⟩
set_option maxRecDepth 100000 in
theorem kf_X2_18 : xFN RX2 18 4 0 RX4 TX4 2 := ⟨rfl, by decide, kc_X4, nB 116 rfl rfl⟩
set_option maxRecDepth 100000 in
theorem kf_X4_19 : xFL RX4 19 4 1 RX4 TX4 2 := ⟨rfl, by decide, kc_X4, wB 217 rfl rfl⟩
set_option maxRecDepth 100000 in
theorem kf_X2_23 : xFN RX2 23 4 1 RX4 TX4 2 := ⟨rfl, by decide, kc_X4, nB 118 rfl rfl⟩
set_option maxRecDepth 100000 in
theorem kf_X0_11 : xFL RX0 11 0 0 RX0 TX0 2 := ⟨rfl, by decide, kc_X0, wB 230 rfl rfl⟩
set_option maxRecDepth 100000 in
theorem kf_X2_71 : xFN RX2 71 0 0 RX0 TX0 2 := ⟨rfl, by decide, kc_X0, nB 131 rfl rfl⟩
set_option maxRecDepth 100000 in
theorem kf_X0_17 : xFL RX0 17 0 1 RX0 TX0 2 := ⟨rfl, by decide, kc_X0, wB 232 rfl rfl⟩
set_option maxRecDepth 100000 in
theorem kf_X2_78 : xFN RX2 78 0 1 RX0 TX0 2 := ⟨rfl, by decide, kc_X0, nB 133 rfl rfl⟩
set_option maxRecDepth 100000 in
theorem kf_X7_83 : xFN RX7 83 0 1 RX0 TX0 2 := ⟨rfl, by decide, kc_X0, nB 134 rfl rfl⟩
set_option maxRecDepth 100000 in
theorem kf_X2_12 : xFL RX2 12 2 0 RX2 TX2 4 := ⟨rfl, by decide, kc_X2, wB 266 rfl rfl⟩
set_option maxRecDepth 100000 in
theorem kf_X7_34 : xFN RX7 34 2 0 RX2 TX2 4 := ⟨rfl, by decide, kc_X2, nB 167 rfl rfl⟩
set_option maxRecDepth 100000 in
theorem kf_X2_22 : xFL RX2 22 2 1 RX2 TX2 4 := ⟨rfl, by decide, kc_X2, wB 268 rfl rfl⟩
set_option maxRecDepth 100000 in
theorem kf_X7_49 : xFN RX7 49 2 1 RX2 TX2 4 := ⟨rfl, by decide, kc_X2, nB 169 rfl rfl⟩
set_option maxRecDepth 100000 in
theorem kf_X2_27 : xFL RX2 27 2 2 RX2 TX2 4 := ⟨rfl, by decide, kc_X2, wB 270 rfl rfl⟩
set_option maxRecDepth 100000 in
theorem kf_X2_31 : xFL RX2 31 2 3 RX2 TX2 4 := ⟨rfl, by decide, kc_X2, wB 271 rfl rfl⟩
set_option maxRecDepth 100000 in
theorem kf_X7_79 : xFN RX7 79 2 3 RX2 TX2 4 := ⟨rfl, by decide, kc_X2, nB 172 rfl rfl⟩
set_option maxRecDepth 100000 in
theorem kf_X1_11 : xFL RX1 11 1 0 RX1 TX1 3 := ⟨rfl, by decide, kc_X1, wB 291 rfl rfl⟩
set_option maxRecDepth 100000 in
theorem kf_X1_16 : xFL RX1 16 1 1 RX1 TX1 3 := ⟨rfl, by decide, kc_X1, wB 292 rfl rfl⟩
set_option maxRecDepth 100000 in
theorem kf_X1_24 : xFL RX1 24 1 2 RX1 TX1 3 := ⟨rfl, by decide, kc_X1, wB 293 rfl rfl⟩
set_option maxRecDepth 100000 in
theorem kf_X7_167 : xFN RX7 167 1 2 RX1 TX1 3 := ⟨rfl, by decide, kc_X1, nB 194 rfl rfl⟩
set_option maxRecDepth 100000 in
theorem kf_X3_11 : xFL RX3 11 3 0 RX3 TX3 8 := ⟨rfl, by decide, kc_X3, wB 308 rfl rfl⟩
set_option maxRecDepth 100000 in
theorem kf_X3_25 : xFL RX3 25 3 1 RX3 TX3 8 := ⟨rfl, by decide, kc_X3, wB 309 rfl rfl⟩
set_option maxRecDepth 100000 in
theorem kf_X7_198 : xFN RX7 198 3 1 RX3 TX3 8 := ⟨rfl, by decide, kc_X3, nB 210 rfl rfl⟩
set_option maxRecDepth 100000 in
theorem kf_X3_29 : xFL RX3 29 3 2 RX3 TX3 8 := ⟨rfl, by decide, kc_X3, wB 311 rfl rfl⟩
set_option maxRecDepth 100000 in
theorem kf_X3_64 : xFL RX3 64 3 3 RX3 TX3 8 := ⟨rfl, by decide, kc_X3, wB 312 rfl rfl⟩
set_option maxRecDepth 100000 in
theorem kf_X7_135 : xFN RX7 135 3 3 RX3 TX3 8 := ⟨rfl, by decide, kc_X3, nB 213 rfl rfl⟩
set_option maxRecDepth 100000 in
theorem kf_X3_67 : xFL RX3 67 3 4 RX3 TX3 8 := ⟨rfl, by decide, kc_X3, wB 314 rfl rfl⟩
set_option maxRecDepth 100000 in
theorem kf_X7_138 : xFN RX7 138 3 4 RX3 TX3 8 := ⟨rfl, by decide, kc_X3, nB 215 rfl rfl⟩
set_option maxRecDepth 100000 in
theorem kf_X3_36 : xFL RX3 36 3 5 RX3 TX3 8 := ⟨rfl, by decide, kc_X3, wB 316 rfl rfl⟩
set_option maxRecDepth 100000 in
theorem kf_X7_145 : xFN RX7 145 3 5 RX3 TX3 8 := ⟨rfl, by decide, kc_X3, nB 217 rfl rfl⟩
set_option maxRecDepth 100000 in
theorem kf_X3_15 : xFL RX3 15 3 6 RX3 TX3 8 := ⟨rfl, by decide, kc_X3, wB 318 rfl rfl⟩
set_option maxRecDepth 100000 in
theorem kf_X7_195 : xFN RX7 195 3 6 RX3 TX3 8 := ⟨rfl, by decide, kc_X3, nB 219 rfl rfl⟩
set_option maxRecDepth 100000 in
theorem kf_X3_18 : xFL RX3 18 3 7 RX3 TX3 8 := ⟨rfl, by decide, kc_X3, wB 320 rfl rfl⟩
set_option maxRecDepth 100000 in
theorem kf_X7_10 : xFL RX7 10 7 0 RX7 TX7 8 := ⟨rfl, by decide, kc_X7, wB 338 rfl rfl⟩
set_option maxRecDepth 100000 in
theorem kf_X7_19 : xFL RX7 19 7 1 RX7 TX7 8 := ⟨rfl, by decide, kc_X7, wB 339 rfl rfl⟩
set_option maxRecDepth 100000 in
theorem kf_X7_26 : xFL RX7 26 7 2 RX7 TX7 8 := ⟨rfl, by decide, kc_X7, wB 340 rfl rfl⟩
set_option maxRecDepth 100000 in
theorem kf_X7_183 : xFL RX7 183 7 3 RX7 TX7 8 := ⟨rfl, by decide, kc_X7, wB 341 rfl rfl⟩
set_option maxRecDepth 100000 in
theorem kf_X7_186 : xFL RX7 186 7 4 RX7 TX7 8 := ⟨rfl, by decide, kc_X7, wB 342 rfl rfl⟩
set_option maxRecDepth 100000 in
theorem kf_X7_189 : xFL RX7 189 7 5 RX7 TX7 8 := ⟨rfl, by decide, kc_X7, wB 343 rfl rfl⟩
set_option maxRecDepth 100000 in
theorem kf_X7_166 : xFL RX7 166 7 6 RX7 TX7 8 := ⟨rfl, by decide, kc_X7, wB 344 rfl rfl⟩
set_option maxRecDepth 100000 in
theorem kf_X7_30 : xFL RX7 30 7 7 RX7 TX7 8 := ⟨rfl, by decide, kc_X7, wB 345 rfl rfl⟩
set_option maxRecDepth 100000 in
theorem kf_X8_7 : xFL RX8 7 8 0 RX8 TX8 17 := ⟨rfl, by decide, kc_X8, wB 768 rfl rfl⟩
set_option maxRecDepth 100000 in
theorem kf_X8_13 : xFL RX8 13 8 1 RX8 TX8 17 := ⟨rfl, by decide, kc_X8, wB 769 rfl rfl⟩
set_option maxRecDepth 100000 in
theorem kf_X8_38 : xFL RX8 38 8 2 RX8 TX8 17 := ⟨rfl, by decide, kc_X8, wB 770 rfl rfl⟩
set_option maxRecDepth 100000 in
theorem kf_X8_32 : xFL RX8 32 8 3 RX8 TX8 17 := ⟨rfl, by decide, kc_X8, wB 771 rfl rfl⟩
set_option maxRecDepth 100000 in
theorem kf_X8_35 : xFL RX8 35 8 4 RX8 TX8 17 := ⟨rfl, by decide, kc_X8, wB 772 rfl rfl⟩
set_option maxRecDepth 100000 in
theorem kf_X8_146 : xFL RX8 146 8 5 RX8 TX8 17 := ⟨rfl, by decide, kc_X8, wB 773 rfl rfl⟩
set_option maxRecDepth 100000 in
theorem kf_X8_192 : xFL RX8 192 8 6 RX8 TX8 17 := ⟨rfl, by decide, kc_X8, wB 774 rfl rfl⟩
set_option maxRecDepth 100000 in
theorem kf_X8_16 : xFL RX8 16 8 7 RX8 TX8 17 := ⟨rfl, by decide, kc_X8, wB 775 rfl rfl⟩
set_option maxRecDepth 100000 in
theorem kf_X8_20 : xFL RX8 20 8 8 RX8 TX8 17 := ⟨rfl, by decide, kc_X8, wB 776 rfl rfl⟩
set_option maxRecDepth 100000 in
theorem kf_X8_23 : xFL RX8 23 8 9 RX8 TX8 17 := ⟨rfl, by decide, kc_X8, wB 777 rfl rfl⟩
set_option maxRecDepth 100000 in
theorem kf_X8_143 : xFL RX8 143 8 10 RX8 TX8 17 := ⟨rfl, by decide, kc_X8, wB 778 rfl rfl⟩
set_option maxRecDepth 100000 in
theorem kf_X8_149 : xFL RX8 149 8 11 RX8 TX8 17 := ⟨rfl, by decide, kc_X8, wB 779 rfl rfl⟩
set_option maxRecDepth 100000 in
theorem kf_X8_159 : xFL RX8 159 8 12 RX8 TX8 17 := ⟨rfl, by decide, kc_X8, wB 780 rfl rfl⟩
set_option maxRecDepth 100000 in
theorem kf_X8_175 : xFL RX8 175 8 13 RX8 TX8 17 := ⟨rfl, by decide, kc_X8, wB 781 rfl rfl⟩
set_option maxRecDepth 100000 in
theorem kf_X8_179 : xFL RX8 179 8 14 RX8 TX8 17 := ⟨rfl, by decide, kc_X8, wB 782 rfl rfl⟩
set_option maxRecDepth 100000 in
theorem kf_X8_26 : xFL RX8 26 8 15 RX8 TX8 17 := ⟨rfl, by decide, kc_X8, wB 783 rfl rfl⟩
set_option maxRecDepth 100000 in
theorem kf_X8_29 : xFL RX8 29 8 16 RX8 TX8 17 := ⟨rfl, by decide, kc_X8, wB 784 rfl rfl⟩
set_option maxRecDepth 100000 in
theorem km_L_9 : xML RL 9 yX7_init cX7_init 1 none 0 := ⟨wB 120 rfl rfl, wB 101 rfl rfl, by decide +kernel, wB 118 rfl rfl⟩
set_option maxRecDepth 100000 in
theorem ki_X7_init : Cond.instanceMethod yX7_init ∈ wBig := wB 119 rfl rfl
set_option maxRecDepth 100000 in
theorem km_X7_9 : xMN RX7 9 yX2_init cX2_init 1 none 0 := ⟨wB 128 rfl rfl, wB 102 rfl rfl, by decide +kernel, nB 26 rfl rfl⟩
set_option maxRecDepth 100000 in
theorem ki_X2_init : Cond.instanceMethod yX2_init ∈ wBig := wB 127 rfl rfl
set_option maxRecDepth 100000 in
theorem km_X2_11 : xMN RX2 11 yX4_init cX4_init 1 none 0 := ⟨wB 134 rfl rfl, wB 103 rfl rfl, by decide +kernel, nB 32 rfl rfl⟩
set_option maxRecDepth 100000 in
theorem ki_X4_init : Cond.instanceMethod yX4_init ∈ wBig := wB 133 rfl rfl
set_option maxRecDepth 100000 in
theorem km_X4_9 : xMN RX4 9 yX5_init cX5_init 2 none 0 := ⟨wB 140 rfl rfl, wB 104 rfl rfl, by decide +kernel, nB 38 rfl rfl⟩
set_option maxRecDepth 100000 in
theorem ki_X5_init : Cond.instanceMethod yX5_init ∈ wBig := wB 139 rfl rfl
set_option maxRecDepth 100000 in
theorem kcopy_X5_31 : Cond.methodLink RX5 31 arraycopyName ∈ wBig ∧ Cond.native arraycopyName ∈ wBig ∧ Cond.static arraycopyName ∈ wBig ∧ Cond.initialized "java/lang/System" ∈ wBig := ⟨wB 144 rfl rfl, wB 146 rfl rfl, wB 145 rfl rfl, wB 105 rfl rfl⟩
set_option maxRecDepth 100000 in
theorem km_X4_18 : xMN RX4 18 yX6_init cX6_init 1 none 0 := ⟨wB 180 rfl rfl, wB 106 rfl rfl, by decide +kernel, nB 78 rfl rfl⟩
set_option maxRecDepth 100000 in
theorem ki_X6_init : Cond.instanceMethod yX6_init ∈ wBig := wB 179 rfl rfl
set_option maxRecDepth 100000 in
theorem km_X2_30 : xMN RX2 30 yX0_init cX0_init 1 none 0 := ⟨wB 228 rfl rfl, wB 107 rfl rfl, by decide +kernel, nB 126 rfl rfl⟩
set_option maxRecDepth 100000 in
theorem ki_X0_init : Cond.instanceMethod yX0_init ∈ wBig := wB 227 rfl rfl
set_option maxRecDepth 100000 in
theorem km_X2_35 : xML RX2 35 yX2_redraws cX2_redraws 1 none 0 := ⟨wB 243 rfl rfl, wB 102 rfl rfl, by decide +kernel, wB 240 rfl rfl⟩
set_option maxRecDepth 100000 in
theorem kv_X2_redraws : xMV yX2_redraws 2 RX2 TX2 4 := ⟨rfl, wB 242 rfl rfl, wB 0 rfl rfl⟩
set_option maxRecDepth 100000 in
theorem km_X2_38 : xMN RX2 38 yX0_draws cX0_draws 4 none 1 := ⟨wB 247 rfl rfl, wB 107 rfl rfl, by decide +kernel, nB 144 rfl rfl⟩
set_option maxRecDepth 100000 in
theorem kv_X0_draws : xMV yX0_draws 0 RX0 TX0 2 := ⟨rfl, wB 246 rfl rfl, wB 1 rfl rfl⟩
set_option maxRecDepth 100000 in
theorem km_X0_20 : xML RX0 20 yX0_drawsCeilings cX0_drawsCeilings 5 none 1 := ⟨wB 251 rfl rfl, wB 107 rfl rfl, by decide +kernel, wB 248 rfl rfl⟩
set_option maxRecDepth 100000 in
theorem kv_X0_drawsCeilings : xMV yX0_drawsCeilings 0 RX0 TX0 2 := ⟨rfl, wB 250 rfl rfl, wB 2 rfl rfl⟩
set_option maxRecDepth 100000 in
theorem km_X0_41 : xMM RX0 41 Lib.Math.max.name Lib.Math.max.code := ⟨wB 252 rfl rfl, wB 253 rfl rfl, wB 108 rfl rfl, wB 254 rfl rfl⟩
set_option maxRecDepth 100000 in
theorem km_X0_47 : xML RX0 47 yX0_leastCeiling cX0_leastCeiling 5 (some .int) 3 := ⟨wB 257 rfl rfl, wB 107 rfl rfl, by decide +kernel, wB 255 rfl rfl⟩
set_option maxRecDepth 100000 in
theorem ks_X0_leastCeiling : Cond.static yX0_leastCeiling ∈ wBig := wB 256 rfl rfl
set_option maxRecDepth 100000 in
theorem km_X0_28 : xMN RX0 28 yX5_decel cX5_decel 2 (some .int) 1 := ⟨wB 261 rfl rfl, wB 104 rfl rfl, by decide +kernel, nB 158 rfl rfl⟩
set_option maxRecDepth 100000 in
theorem kv_X5_decel : xMV yX5_decel 5 RX5 TX5 5 := ⟨rfl, wB 260 rfl rfl, wB 3 rfl rfl⟩
set_option maxRecDepth 100000 in
theorem km_X5_41 : xMM RX5 41 Lib.Math.max.name Lib.Math.max.code := ⟨wB 262 rfl rfl, wB 253 rfl rfl, wB 108 rfl rfl, wB 254 rfl rfl⟩
set_option maxRecDepth 100000 in
theorem km_X0_32 : xMM RX0 32 Lib.Math.min.name Lib.Math.min.code := ⟨wB 263 rfl rfl, wB 264 rfl rfl, wB 108 rfl rfl, wB 265 rfl rfl⟩
set_option maxRecDepth 100000 in
theorem km_X7_18 : xMN RX7 18 yX1_init cX1_init 2 none 0 := ⟨wB 286 rfl rfl, wB 109 rfl rfl, by decide +kernel, nB 184 rfl rfl⟩
set_option maxRecDepth 100000 in
theorem ki_X1_init : Cond.instanceMethod yX1_init ∈ wBig := wB 285 rfl rfl
set_option maxRecDepth 100000 in
theorem km_X1_15 : xMN RX1 15 yX4_init cX4_init 1 none 0 := ⟨wB 134 rfl rfl, wB 103 rfl rfl, by decide +kernel, nB 190 rfl rfl⟩
set_option maxRecDepth 100000 in
theorem km_X7_25 : xMN RX7 25 yX3_init cX3_init 1 none 0 := ⟨wB 306 rfl rfl, wB 110 rfl rfl, by decide +kernel, nB 204 rfl rfl⟩
set_option maxRecDepth 100000 in
theorem ki_X3_init : Cond.instanceMethod yX3_init ∈ wBig := wB 305 rfl rfl
set_option maxRecDepth 100000 in
theorem km_L_13 : xML RL 13 yX7_lengthens cX7_lengthens 2 (some .int) 1 := ⟨wB 366 rfl rfl, wB 101 rfl rfl, by decide +kernel, wB 363 rfl rfl⟩
set_option maxRecDepth 100000 in
theorem kv_X7_lengthens : xMV yX7_lengthens 7 RX7 TX7 8 := ⟨rfl, wB 364 rfl rfl, wB 365 rfl rfl⟩
set_option maxRecDepth 100000 in
theorem km_X7_38 : xMN RX7 38 yX1_notes cX1_notes 2 none 1 := ⟨wB 370 rfl rfl, wB 109 rfl rfl, by decide +kernel, nB 267 rfl rfl⟩
set_option maxRecDepth 100000 in
theorem kv_X1_notes : xMV yX1_notes 1 RX1 TX1 3 := ⟨rfl, wB 369 rfl rfl, wB 4 rfl rfl⟩
set_option maxRecDepth 100000 in
theorem km_X1_20 : xMN RX1 20 yX4_copies cX4_copies 2 none 1 := ⟨wB 374 rfl rfl, wB 103 rfl rfl, by decide +kernel, nB 271 rfl rfl⟩
set_option maxRecDepth 100000 in
theorem kv_X4_copies : xMV yX4_copies 4 RX4 TX4 2 := ⟨rfl, wB 373 rfl rfl, wB 5 rfl rfl⟩
set_option maxRecDepth 100000 in
theorem km_X4_23 : xMN RX4 23 yX5_copies cX5_copies 2 none 1 := ⟨wB 378 rfl rfl, wB 104 rfl rfl, by decide +kernel, nB 275 rfl rfl⟩
set_option maxRecDepth 100000 in
theorem kv_X5_copies : xMV yX5_copies 5 RX5 TX5 5 := ⟨rfl, wB 377 rfl rfl, wB 6 rfl rfl⟩
set_option maxRecDepth 100000 in
theorem km_X4_27 : xMN RX4 27 yX6_copies cX6_copies 2 none 1 := ⟨wB 382 rfl rfl, wB 106 rfl rfl, by decide +kernel, nB 279 rfl rfl⟩
set_option maxRecDepth 100000 in
theorem kv_X6_copies : xMV yX6_copies 6 RX6 TX6 8 := ⟨rfl, wB 381 rfl rfl, wB 7 rfl rfl⟩
set_option maxRecDepth 100000 in
theorem km_X7_42 : xMN RX7 42 yX2_resizes cX2_resizes 3 (some .int) 1 := ⟨wB 386 rfl rfl, wB 102 rfl rfl, by decide +kernel, nB 283 rfl rfl⟩
set_option maxRecDepth 100000 in
theorem kv_X2_resizes : xMV yX2_resizes 2 RX2 TX2 4 := ⟨rfl, wB 385 rfl rfl, wB 8 rfl rfl⟩
set_option maxRecDepth 100000 in
theorem km_X2_42 : xMN RX2 42 yX5_resized cX5_resized 4 (some .int) 1 := ⟨wB 390 rfl rfl, wB 104 rfl rfl, by decide +kernel, nB 287 rfl rfl⟩
set_option maxRecDepth 100000 in
theorem kv_X5_resized : xMV yX5_resized 5 RX5 TX5 5 := ⟨rfl, wB 389 rfl rfl, wB 9 rfl rfl⟩
set_option maxRecDepth 100000 in
theorem km_X5_37 : xMN RX5 37 yX7_within cX7_within 3 (some .boolean) 3 := ⟨wB 393 rfl rfl, wB 101 rfl rfl, by decide +kernel, nB 291 rfl rfl⟩
set_option maxRecDepth 100000 in
theorem ks_X7_within : Cond.static yX7_within ∈ wBig := wB 392 rfl rfl
set_option maxRecDepth 100000 in
theorem km_X2_48 : xMN RX2 48 yX6_puts cX6_puts 3 none 2 := ⟨wB 397 rfl rfl, wB 106 rfl rfl, by decide +kernel, nB 294 rfl rfl⟩
set_option maxRecDepth 100000 in
theorem kv_X6_puts : xMV yX6_puts 6 RX6 TX6 8 := ⟨rfl, wB 396 rfl rfl, wB 10 rfl rfl⟩
set_option maxRecDepth 100000 in
theorem km_X6_36 : xML RX6 36 yX6_knowsPlace cX6_knowsPlace 1 none 0 := ⟨wB 401 rfl rfl, wB 106 rfl rfl, by decide +kernel, wB 398 rfl rfl⟩
set_option maxRecDepth 100000 in
theorem kv_X6_knowsPlace : xMV yX6_knowsPlace 6 RX6 TX6 8 := ⟨rfl, wB 400 rfl rfl, wB 11 rfl rfl⟩
set_option maxRecDepth 100000 in
theorem km_X7_46 : xML RX7 46 yX7_redrawn cX7_redrawn 2 (some .int) 1 := ⟨wB 405 rfl rfl, wB 101 rfl rfl, by decide +kernel, wB 402 rfl rfl⟩
set_option maxRecDepth 100000 in
theorem kv_X7_redrawn : xMV yX7_redrawn 7 RX7 TX7 8 := ⟨rfl, wB 404 rfl rfl, wB 12 rfl rfl⟩
set_option maxRecDepth 100000 in
theorem km_X7_160 : xMN RX7 160 yX2_redraws cX2_redraws 1 none 0 := ⟨wB 243 rfl rfl, wB 102 rfl rfl, by decide +kernel, nB 306 rfl rfl⟩
set_option maxRecDepth 100000 in
theorem km_X7_63 : xML RX7 63 yX7_settled cX7_settled 2 (some .int) 1 := ⟨wB 410 rfl rfl, wB 101 rfl rfl, by decide +kernel, wB 407 rfl rfl⟩
set_option maxRecDepth 100000 in
theorem kv_X7_settled : xMV yX7_settled 7 RX7 TX7 8 := ⟨rfl, wB 409 rfl rfl, wB 13 rfl rfl⟩
set_option maxRecDepth 100000 in
theorem km_X7_163 : xMN RX7 163 yX1_keeps cX1_keeps 1 none 0 := ⟨wB 414 rfl rfl, wB 109 rfl rfl, by decide +kernel, nB 311 rfl rfl⟩
set_option maxRecDepth 100000 in
theorem kv_X1_keeps : xMV yX1_keeps 1 RX1 TX1 3 := ⟨rfl, wB 413 rfl rfl, wB 14 rfl rfl⟩
set_option maxRecDepth 100000 in
theorem km_X1_27 : xMM RX1 27 Lib.Math.min.name Lib.Math.min.code := ⟨wB 415 rfl rfl, wB 264 rfl rfl, wB 108 rfl rfl, wB 265 rfl rfl⟩
set_option maxRecDepth 100000 in
theorem km_X7_72 : xML RX7 72 yX7_counted cX7_counted 2 (some .int) 1 := ⟨wB 419 rfl rfl, wB 101 rfl rfl, by decide +kernel, wB 416 rfl rfl⟩
set_option maxRecDepth 100000 in
theorem kv_X7_counted : xMV yX7_counted 7 RX7 TX7 8 := ⟨rfl, wB 418 rfl rfl, wB 15 rfl rfl⟩
set_option maxRecDepth 100000 in
theorem km_L_18 : xML RL 18 yX7_lays cX7_lays 5 (some .int) 4 := ⟨wB 423 rfl rfl, wB 101 rfl rfl, by decide +kernel, wB 420 rfl rfl⟩
set_option maxRecDepth 100000 in
theorem kv_X7_lays : xMV yX7_lays 7 RX7 TX7 8 := ⟨rfl, wB 421 rfl rfl, wB 422 rfl rfl⟩
set_option maxRecDepth 100000 in
theorem km_X7_53 : xMN RX7 53 yX5_relaid cX5_relaid 5 (some .int) 4 := ⟨wB 427 rfl rfl, wB 104 rfl rfl, by decide +kernel, nB 324 rfl rfl⟩
set_option maxRecDepth 100000 in
theorem kv_X5_relaid : xMV yX5_relaid 5 RX5 TX5 5 := ⟨rfl, wB 426 rfl rfl, wB 16 rfl rfl⟩
set_option maxRecDepth 100000 in
theorem km_X5_47 : xML RX5 47 yX5_has cX5_has 2 (some .boolean) 1 := ⟨wB 431 rfl rfl, wB 104 rfl rfl, by decide +kernel, wB 428 rfl rfl⟩
set_option maxRecDepth 100000 in
theorem kv_X5_has : xMV yX5_has 5 RX5 TX5 5 := ⟨rfl, wB 430 rfl rfl, wB 17 rfl rfl⟩
set_option maxRecDepth 100000 in
theorem km_X5_51 : xML RX5 51 yX5_filled cX5_filled 6 (some .int) 4 := ⟨wB 434 rfl rfl, wB 104 rfl rfl, by decide +kernel, wB 432 rfl rfl⟩
set_option maxRecDepth 100000 in
theorem ks_X5_filled : Cond.static yX5_filled ∈ wBig := wB 433 rfl rfl
set_option maxRecDepth 100000 in
theorem km_L_23 : xML RL 23 yX7_beacon cX7_beacon 3 (some .int) 2 := ⟨wB 438 rfl rfl, wB 101 rfl rfl, by decide +kernel, wB 435 rfl rfl⟩
set_option maxRecDepth 100000 in
theorem kv_X7_beacon : xMV yX7_beacon 7 RX7 TX7 8 := ⟨rfl, wB 436 rfl rfl, wB 437 rfl rfl⟩
set_option maxRecDepth 100000 in
theorem km_X7_59 : xMN RX7 59 yX5_marked cX5_marked 4 (some .int) 2 := ⟨wB 442 rfl rfl, wB 104 rfl rfl, by decide +kernel, nB 339 rfl rfl⟩
set_option maxRecDepth 100000 in
theorem kv_X5_marked : xMV yX5_marked 5 RX5 TX5 5 := ⟨rfl, wB 441 rfl rfl, wB 18 rfl rfl⟩
set_option maxRecDepth 100000 in
theorem km_L_28 : xML RL 28 yX7_sets cX7_sets 3 (some .int) 2 := ⟨wB 446 rfl rfl, wB 101 rfl rfl, by decide +kernel, wB 443 rfl rfl⟩
set_option maxRecDepth 100000 in
theorem kv_X7_sets : xMV yX7_sets 7 RX7 TX7 8 := ⟨rfl, wB 444 rfl rfl, wB 445 rfl rfl⟩
set_option maxRecDepth 100000 in
theorem km_X7_66 : xMN RX7 66 yX5_adjusted cX5_adjusted 4 (some .int) 2 := ⟨wB 450 rfl rfl, wB 104 rfl rfl, by decide +kernel, nB 347 rfl rfl⟩
set_option maxRecDepth 100000 in
theorem kv_X5_adjusted : xMV yX5_adjusted 5 RX5 TX5 5 := ⟨rfl, wB 449 rfl rfl, wB 19 rfl rfl⟩
set_option maxRecDepth 100000 in
theorem km_L_32 : xML RL 32 yX7_cell cX7_cell 3 (some .int) 2 := ⟨wB 458 rfl rfl, wB 101 rfl rfl, by decide +kernel, wB 455 rfl rfl⟩
set_option maxRecDepth 100000 in
theorem kv_X7_cell : xMV yX7_cell 7 RX7 TX7 8 := ⟨rfl, wB 456 rfl rfl, wB 457 rfl rfl⟩
set_option maxRecDepth 100000 in
theorem km_X7_69 : xMN RX7 69 yX2_cellValue cX2_cellValue 3 (some .int) 2 := ⟨wB 462 rfl rfl, wB 102 rfl rfl, by decide +kernel, nB 359 rfl rfl⟩
set_option maxRecDepth 100000 in
theorem kv_X2_cellValue : xMV yX2_cellValue 2 RX2 TX2 4 := ⟨rfl, wB 461 rfl rfl, wB 20 rfl rfl⟩
set_option maxRecDepth 100000 in
theorem km_X2_54 : xMN RX2 54 yX5_has cX5_has 2 (some .boolean) 1 := ⟨wB 431 rfl rfl, wB 104 rfl rfl, by decide +kernel, nB 363 rfl rfl⟩
set_option maxRecDepth 100000 in
theorem km_X2_68 : xMN RX2 68 yX5_decel cX5_decel 2 (some .int) 1 := ⟨wB 261 rfl rfl, wB 104 rfl rfl, by decide +kernel, nB 364 rfl rfl⟩
set_option maxRecDepth 100000 in
theorem km_L_36 : xML RL 36 yX7_lawful cX7_lawful 2 (some .int) 1 := ⟨wB 468 rfl rfl, wB 101 rfl rfl, by decide +kernel, wB 465 rfl rfl⟩
set_option maxRecDepth 100000 in
theorem kv_X7_lawful : xMV yX7_lawful 7 RX7 TX7 8 := ⟨rfl, wB 466 rfl rfl, wB 467 rfl rfl⟩
set_option maxRecDepth 100000 in
theorem km_X7_75 : xMN RX7 75 yX5_has cX5_has 2 (some .boolean) 1 := ⟨wB 431 rfl rfl, wB 104 rfl rfl, by decide +kernel, nB 369 rfl rfl⟩
set_option maxRecDepth 100000 in
theorem km_L_40 : xML RL 40 yX7_permitted cX7_permitted 2 (some .int) 1 := ⟨wB 473 rfl rfl, wB 101 rfl rfl, by decide +kernel, wB 470 rfl rfl⟩
set_option maxRecDepth 100000 in
theorem kv_X7_permitted : xMV yX7_permitted 7 RX7 TX7 8 := ⟨rfl, wB 471 rfl rfl, wB 472 rfl rfl⟩
set_option maxRecDepth 100000 in
theorem km_X7_89 : xML RX7 89 yX7_root cX7_root 4 (some .int) 1 := ⟨wB 476 rfl rfl, wB 101 rfl rfl, by decide +kernel, wB 474 rfl rfl⟩
set_option maxRecDepth 100000 in
theorem ks_X7_root : Cond.static yX7_root ∈ wBig := wB 475 rfl rfl
set_option maxRecDepth 100000 in
theorem km_L_44 : xML RL 44 yX7_bound cX7_bound 2 (some .int) 1 := ⟨wB 480 rfl rfl, wB 101 rfl rfl, by decide +kernel, wB 477 rfl rfl⟩
set_option maxRecDepth 100000 in
theorem kv_X7_bound : xMV yX7_bound 7 RX7 TX7 8 := ⟨rfl, wB 478 rfl rfl, wB 479 rfl rfl⟩
set_option maxRecDepth 100000 in
theorem km_X7_92 : xMN RX7 92 yX0_boundOf cX0_boundOf 5 (some .int) 2 := ⟨wB 484 rfl rfl, wB 107 rfl rfl, by decide +kernel, nB 381 rfl rfl⟩
set_option maxRecDepth 100000 in
theorem kv_X0_boundOf : xMV yX0_boundOf 0 RX0 TX0 2 := ⟨rfl, wB 483 rfl rfl, wB 21 rfl rfl⟩
set_option maxRecDepth 100000 in
theorem km_L_48 : xML RL 48 yX7_stands cX7_stands 4 (some .int) 2 := ⟨wB 488 rfl rfl, wB 101 rfl rfl, by decide +kernel, wB 485 rfl rfl⟩
set_option maxRecDepth 100000 in
theorem kv_X7_stands : xMV yX7_stands 7 RX7 TX7 8 := ⟨rfl, wB 486 rfl rfl, wB 487 rfl rfl⟩
set_option maxRecDepth 100000 in
theorem km_X7_96 : xML RX7 96 yX7_within cX7_within 3 (some .boolean) 3 := ⟨wB 393 rfl rfl, wB 101 rfl rfl, by decide +kernel, wB 489 rfl rfl⟩
set_option maxRecDepth 100000 in
theorem km_X7_100 : xMN RX7 100 yX5_cellsToStand cX5_cellsToStand 5 (some .int) 2 := ⟨wB 493 rfl rfl, wB 104 rfl rfl, by decide +kernel, nB 390 rfl rfl⟩
set_option maxRecDepth 100000 in
theorem kv_X5_cellsToStand : xMV yX5_cellsToStand 5 RX5 TX5 5 := ⟨rfl, wB 492 rfl rfl, wB 22 rfl rfl⟩
set_option maxRecDepth 100000 in
theorem km_X5_61 : xML RX5 61 yX5_decel cX5_decel 2 (some .int) 1 := ⟨wB 261 rfl rfl, wB 104 rfl rfl, by decide +kernel, wB 494 rfl rfl⟩
set_option maxRecDepth 100000 in
theorem km_L_52 : xML RL 52 yX7_speed cX7_speed 4 (some .int) 2 := ⟨wB 498 rfl rfl, wB 101 rfl rfl, by decide +kernel, wB 495 rfl rfl⟩
set_option maxRecDepth 100000 in
theorem kv_X7_speed : xMV yX7_speed 7 RX7 TX7 8 := ⟨rfl, wB 496 rfl rfl, wB 497 rfl rfl⟩
set_option maxRecDepth 100000 in
theorem km_X7_103 : xMN RX7 103 yX5_fastestToStand cX5_fastestToStand 5 (some .int) 2 := ⟨wB 502 rfl rfl, wB 104 rfl rfl, by decide +kernel, nB 399 rfl rfl⟩
set_option maxRecDepth 100000 in
theorem kv_X5_fastestToStand : xMV yX5_fastestToStand 5 RX5 TX5 5 := ⟨rfl, wB 501 rfl rfl, wB 23 rfl rfl⟩
set_option maxRecDepth 100000 in
theorem km_X5_65 : xMN RX5 65 yX7_root cX7_root 4 (some .int) 1 := ⟨wB 476 rfl rfl, wB 101 rfl rfl, by decide +kernel, nB 403 rfl rfl⟩
set_option maxRecDepth 100000 in
theorem km_X5_68 : xMM RX5 68 Lib.Math.min.name Lib.Math.min.code := ⟨wB 504 rfl rfl, wB 264 rfl rfl, wB 108 rfl rfl, wB 265 rfl rfl⟩
set_option maxRecDepth 100000 in
theorem km_L_56 : xML RL 56 yX7_many cX7_many 2 (some .int) 1 := ⟨wB 508 rfl rfl, wB 101 rfl rfl, by decide +kernel, wB 505 rfl rfl⟩
set_option maxRecDepth 100000 in
theorem kv_X7_many : xMV yX7_many 7 RX7 TX7 8 := ⟨rfl, wB 506 rfl rfl, wB 507 rfl rfl⟩
set_option maxRecDepth 100000 in
theorem km_X7_106 : xMN RX7 106 yX2_countPermitted cX2_countPermitted 4 (some .int) 1 := ⟨wB 512 rfl rfl, wB 102 rfl rfl, by decide +kernel, nB 409 rfl rfl⟩
set_option maxRecDepth 100000 in
theorem kv_X2_countPermitted : xMV yX2_countPermitted 2 RX2 TX2 4 := ⟨rfl, wB 511 rfl rfl, wB 24 rfl rfl⟩
set_option maxRecDepth 100000 in
theorem km_X2_81 : xMN RX2 81 yX7_root cX7_root 4 (some .int) 1 := ⟨wB 476 rfl rfl, wB 101 rfl rfl, by decide +kernel, nB 413 rfl rfl⟩
set_option maxRecDepth 100000 in
theorem km_L_60 : xML RL 60 yX7_places cX7_places 3 (some .int) 2 := ⟨wB 517 rfl rfl, wB 101 rfl rfl, by decide +kernel, wB 514 rfl rfl⟩
set_option maxRecDepth 100000 in
theorem kv_X7_places : xMV yX7_places 7 RX7 TX7 8 := ⟨rfl, wB 515 rfl rfl, wB 516 rfl rfl⟩
set_option maxRecDepth 100000 in
theorem km_X7_109 : xMN RX7 109 yX2_putsTrain cX2_putsTrain 3 (some .int) 2 := ⟨wB 521 rfl rfl, wB 102 rfl rfl, by decide +kernel, nB 418 rfl rfl⟩
set_option maxRecDepth 100000 in
theorem kv_X2_putsTrain : xMV yX2_putsTrain 2 RX2 TX2 4 := ⟨rfl, wB 520 rfl rfl, wB 25 rfl rfl⟩
set_option maxRecDepth 100000 in
theorem km_X2_84 : xMN RX2 84 yX7_within cX7_within 3 (some .boolean) 3 := ⟨wB 393 rfl rfl, wB 101 rfl rfl, by decide +kernel, nB 422 rfl rfl⟩
set_option maxRecDepth 100000 in
theorem km_X2_88 : xML RX2 88 yX2_supervises cX2_supervises 2 none 0 := ⟨wB 526 rfl rfl, wB 102 rfl rfl, by decide +kernel, wB 523 rfl rfl⟩
set_option maxRecDepth 100000 in
theorem kv_X2_supervises : xMV yX2_supervises 2 RX2 TX2 4 := ⟨rfl, wB 525 rfl rfl, wB 26 rfl rfl⟩
set_option maxRecDepth 100000 in
theorem km_X2_120 : xML RX2 120 yX2_seen cX2_seen 1 (some .int) 0 := ⟨wB 530 rfl rfl, wB 102 rfl rfl, by decide +kernel, wB 527 rfl rfl⟩
set_option maxRecDepth 100000 in
theorem kv_X2_seen : xMV yX2_seen 2 RX2 TX2 4 := ⟨rfl, wB 529 rfl rfl, wB 27 rfl rfl⟩
set_option maxRecDepth 100000 in
theorem km_X2_134 : xML RX2 134 yX2_spanFirst cX2_spanFirst 1 (some .int) 0 := ⟨wB 534 rfl rfl, wB 102 rfl rfl, by decide +kernel, wB 531 rfl rfl⟩
set_option maxRecDepth 100000 in
theorem kv_X2_spanFirst : xMV yX2_spanFirst 2 RX2 TX2 4 := ⟨rfl, wB 533 rfl rfl, wB 28 rfl rfl⟩
set_option maxRecDepth 100000 in
theorem km_X2_143 : xML RX2 143 yX2_kept cX2_kept 2 (some .int) 1 := ⟨wB 538 rfl rfl, wB 102 rfl rfl, by decide +kernel, wB 535 rfl rfl⟩
set_option maxRecDepth 100000 in
theorem kv_X2_kept : xMV yX2_kept 2 RX2 TX2 4 := ⟨rfl, wB 537 rfl rfl, wB 29 rfl rfl⟩
set_option maxRecDepth 100000 in
theorem km_X2_129 : xMM RX2 129 Lib.Math.min.name Lib.Math.min.code := ⟨wB 539 rfl rfl, wB 264 rfl rfl, wB 108 rfl rfl, wB 265 rfl rfl⟩
set_option maxRecDepth 100000 in
theorem km_X2_149 : xMM RX2 149 Lib.Math.max.name Lib.Math.max.code := ⟨wB 540 rfl rfl, wB 253 rfl rfl, wB 108 rfl rfl, wB 254 rfl rfl⟩
set_option maxRecDepth 100000 in
theorem km_X2_126 : xML RX2 126 yX2_spanLast cX2_spanLast 1 (some .int) 0 := ⟨wB 544 rfl rfl, wB 102 rfl rfl, by decide +kernel, wB 541 rfl rfl⟩
set_option maxRecDepth 100000 in
theorem kv_X2_spanLast : xMV yX2_spanLast 2 RX2 TX2 4 := ⟨rfl, wB 543 rfl rfl, wB 30 rfl rfl⟩
set_option maxRecDepth 100000 in
theorem km_X2_137 : xMN RX2 137 yX0_leastSquare cX0_leastSquare 5 (some .int) 2 := ⟨wB 548 rfl rfl, wB 107 rfl rfl, by decide +kernel, nB 445 rfl rfl⟩
set_option maxRecDepth 100000 in
theorem kv_X0_leastSquare : xMV yX0_leastSquare 0 RX0 TX0 2 := ⟨rfl, wB 547 rfl rfl, wB 31 rfl rfl⟩
set_option maxRecDepth 100000 in
theorem km_L_64 : xML RL 64 yX7_steps cX7_steps 2 (some .int) 1 := ⟨wB 552 rfl rfl, wB 101 rfl rfl, by decide +kernel, wB 549 rfl rfl⟩
set_option maxRecDepth 100000 in
theorem kv_X7_steps : xMV yX7_steps 7 RX7 TX7 8 := ⟨rfl, wB 550 rfl rfl, wB 551 rfl rfl⟩
set_option maxRecDepth 100000 in
theorem km_X7_112 : xMN RX7 112 yX2_stepsOnce cX2_stepsOnce 2 (some .int) 1 := ⟨wB 556 rfl rfl, wB 102 rfl rfl, by decide +kernel, nB 453 rfl rfl⟩
set_option maxRecDepth 100000 in
theorem kv_X2_stepsOnce : xMV yX2_stepsOnce 2 RX2 TX2 4 := ⟨rfl, wB 555 rfl rfl, wB 32 rfl rfl⟩
set_option maxRecDepth 100000 in
theorem km_X2_94 : xML RX2 94 yX2_goesOn cX2_goesOn 5 (some .boolean) 1 := ⟨wB 560 rfl rfl, wB 102 rfl rfl, by decide +kernel, wB 557 rfl rfl⟩
set_option maxRecDepth 100000 in
theorem kv_X2_goesOn : xMV yX2_goesOn 2 RX2 TX2 4 := ⟨rfl, wB 559 rfl rfl, wB 33 rfl rfl⟩
set_option maxRecDepth 100000 in
theorem km_X2_104 : xML RX2 104 yX2_gain cX2_gain 5 (some .int) 2 := ⟨wB 564 rfl rfl, wB 102 rfl rfl, by decide +kernel, wB 561 rfl rfl⟩
set_option maxRecDepth 100000 in
theorem kv_X2_gain : xMV yX2_gain 2 RX2 TX2 4 := ⟨rfl, wB 563 rfl rfl, wB 34 rfl rfl⟩
set_option maxRecDepth 100000 in
theorem km_X2_111 : xMN RX2 111 yX6_goesOn cX6_goesOn 3 none 2 := ⟨wB 568 rfl rfl, wB 106 rfl rfl, by decide +kernel, nB 465 rfl rfl⟩
set_option maxRecDepth 100000 in
theorem kv_X6_goesOn : xMV yX6_goesOn 6 RX6 TX6 8 := ⟨rfl, wB 567 rfl rfl, wB 35 rfl rfl⟩
set_option maxRecDepth 100000 in
theorem km_L_68 : xML RL 68 yX7_drives cX7_drives 2 (some .int) 1 := ⟨wB 572 rfl rfl, wB 101 rfl rfl, by decide +kernel, wB 569 rfl rfl⟩
set_option maxRecDepth 100000 in
theorem kv_X7_drives : xMV yX7_drives 7 RX7 TX7 8 := ⟨rfl, wB 570 rfl rfl, wB 571 rfl rfl⟩
set_option maxRecDepth 100000 in
theorem km_X7_115 : xMN RX7 115 yX2_stepsByDriver cX2_stepsByDriver 3 (some .int) 1 := ⟨wB 576 rfl rfl, wB 102 rfl rfl, by decide +kernel, nB 473 rfl rfl⟩
set_option maxRecDepth 100000 in
theorem kv_X2_stepsByDriver : xMV yX2_stepsByDriver 2 RX2 TX2 4 := ⟨rfl, wB 575 rfl rfl, wB 36 rfl rfl⟩
set_option maxRecDepth 100000 in
theorem km_X2_97 : xML RX2 97 yX2_driverHandle cX2_driverHandle 4 (some .int) 0 := ⟨wB 580 rfl rfl, wB 102 rfl rfl, by decide +kernel, wB 577 rfl rfl⟩
set_option maxRecDepth 100000 in
theorem kv_X2_driverHandle : xMV yX2_driverHandle 2 RX2 TX2 4 := ⟨rfl, wB 579 rfl rfl, wB 37 rfl rfl⟩
set_option maxRecDepth 100000 in
theorem km_L_72 : xML RL 72 yX7_frees cX7_frees 1 (some .int) 0 := ⟨wB 584 rfl rfl, wB 101 rfl rfl, by decide +kernel, wB 581 rfl rfl⟩
set_option maxRecDepth 100000 in
theorem kv_X7_frees : xMV yX7_frees 7 RX7 TX7 8 := ⟨rfl, wB 582 rfl rfl, wB 583 rfl rfl⟩
set_option maxRecDepth 100000 in
theorem km_X7_118 : xMN RX7 118 yX2_releases cX2_releases 1 (some .int) 0 := ⟨wB 588 rfl rfl, wB 102 rfl rfl, by decide +kernel, nB 485 rfl rfl⟩
set_option maxRecDepth 100000 in
theorem kv_X2_releases : xMV yX2_releases 2 RX2 TX2 4 := ⟨rfl, wB 587 rfl rfl, wB 38 rfl rfl⟩
set_option maxRecDepth 100000 in
theorem km_L_77 : xML RL 77 yX7_train cX7_train 2 (some .int) 1 := ⟨wB 592 rfl rfl, wB 101 rfl rfl, by decide +kernel, wB 589 rfl rfl⟩
set_option maxRecDepth 100000 in
theorem kv_X7_train : xMV yX7_train 7 RX7 TX7 8 := ⟨rfl, wB 590 rfl rfl, wB 591 rfl rfl⟩
set_option maxRecDepth 100000 in
theorem km_X7_122 : xMN RX7 122 yX2_trainValue cX2_trainValue 2 (some .int) 1 := ⟨wB 596 rfl rfl, wB 102 rfl rfl, by decide +kernel, nB 493 rfl rfl⟩
set_option maxRecDepth 100000 in
theorem kv_X2_trainValue : xMV yX2_trainValue 2 RX2 TX2 4 := ⟨rfl, wB 595 rfl rfl, wB 39 rfl rfl⟩
set_option maxRecDepth 100000 in
theorem km_L_81 : xML RL 81 yX7_type cX7_type 2 (some .int) 1 := ⟨wB 600 rfl rfl, wB 101 rfl rfl, by decide +kernel, wB 597 rfl rfl⟩
set_option maxRecDepth 100000 in
theorem kv_X7_type : xMV yX7_type 7 RX7 TX7 8 := ⟨rfl, wB 598 rfl rfl, wB 599 rfl rfl⟩
set_option maxRecDepth 100000 in
theorem km_X7_125 : xMN RX7 125 yX3_adds cX3_adds 2 (some .int) 1 := ⟨wB 604 rfl rfl, wB 110 rfl rfl, by decide +kernel, nB 501 rfl rfl⟩
set_option maxRecDepth 100000 in
theorem kv_X3_adds : xMV yX3_adds 3 RX3 TX3 8 := ⟨rfl, wB 603 rfl rfl, wB 40 rfl rfl⟩
set_option maxRecDepth 100000 in
theorem km_X3_21 : xMN RX3 21 yX7_within cX7_within 3 (some .boolean) 3 := ⟨wB 393 rfl rfl, wB 101 rfl rfl, by decide +kernel, nB 505 rfl rfl⟩
set_option maxRecDepth 100000 in
theorem km_L_85 : xML RL 85 yX7_clear cX7_clear 1 (some .int) 0 := ⟨wB 609 rfl rfl, wB 101 rfl rfl, by decide +kernel, wB 606 rfl rfl⟩
set_option maxRecDepth 100000 in
theorem kv_X7_clear : xMV yX7_clear 7 RX7 TX7 8 := ⟨rfl, wB 607 rfl rfl, wB 608 rfl rfl⟩
set_option maxRecDepth 100000 in
theorem km_X7_128 : xMN RX7 128 yX3_empties cX3_empties 2 (some .int) 0 := ⟨wB 613 rfl rfl, wB 110 rfl rfl, by decide +kernel, nB 510 rfl rfl⟩
set_option maxRecDepth 100000 in
theorem kv_X3_empties : xMV yX3_empties 3 RX3 TX3 8 := ⟨rfl, wB 612 rfl rfl, wB 41 rfl rfl⟩
set_option maxRecDepth 100000 in
theorem km_L_89 : xML RL 89 yX7_does cX7_does 2 (some .int) 0 := ⟨wB 617 rfl rfl, wB 101 rfl rfl, by decide +kernel, wB 614 rfl rfl⟩
set_option maxRecDepth 100000 in
theorem kv_X7_does : xMV yX7_does 7 RX7 TX7 8 := ⟨rfl, wB 615 rfl rfl, wB 616 rfl rfl⟩
set_option maxRecDepth 100000 in
theorem km_X7_131 : xMN RX7 131 yX3_isReadable cX3_isReadable 2 (some .boolean) 0 := ⟨wB 621 rfl rfl, wB 110 rfl rfl, by decide +kernel, nB 518 rfl rfl⟩
set_option maxRecDepth 100000 in
theorem kv_X3_isReadable : xMV yX3_isReadable 3 RX3 TX3 8 := ⟨rfl, wB 620 rfl rfl, wB 42 rfl rfl⟩
set_option maxRecDepth 100000 in
theorem km_X3_32 : xML RX3 32 yX3_readsOrder cX3_readsOrder 7 (some .boolean) 1 := ⟨wB 625 rfl rfl, wB 110 rfl rfl, by decide +kernel, wB 622 rfl rfl⟩
set_option maxRecDepth 100000 in
theorem kv_X3_readsOrder : xMV yX3_readsOrder 3 RX3 TX3 8 := ⟨rfl, wB 624 rfl rfl, wB 43 rfl rfl⟩
set_option maxRecDepth 100000 in
theorem km_X3_39 : xML RX3 39 yX3_skipsBlanks cX3_skipsBlanks 1 none 0 := ⟨wB 629 rfl rfl, wB 110 rfl rfl, by decide +kernel, wB 626 rfl rfl⟩
set_option maxRecDepth 100000 in
theorem kv_X3_skipsBlanks : xMV yX3_skipsBlanks 3 RX3 TX3 8 := ⟨rfl, wB 628 rfl rfl, wB 44 rfl rfl⟩
set_option maxRecDepth 100000 in
theorem km_X3_46 : xML RX3 46 yX3_skipsLetters cX3_skipsLetters 1 none 0 := ⟨wB 633 rfl rfl, wB 110 rfl rfl, by decide +kernel, wB 630 rfl rfl⟩
set_option maxRecDepth 100000 in
theorem kv_X3_skipsLetters : xMV yX3_skipsLetters 3 RX3 TX3 8 := ⟨rfl, wB 632 rfl rfl, wB 45 rfl rfl⟩
set_option maxRecDepth 100000 in
theorem km_X3_42 : xML RX3 42 yX3_faulty cX3_faulty 3 (some .boolean) 2 := ⟨wB 637 rfl rfl, wB 110 rfl rfl, by decide +kernel, wB 634 rfl rfl⟩
set_option maxRecDepth 100000 in
theorem kv_X3_faulty : xMV yX3_faulty 3 RX3 TX3 8 := ⟨rfl, wB 636 rfl rfl, wB 46 rfl rfl⟩
set_option maxRecDepth 100000 in
theorem km_X3_49 : xML RX3 49 yX3_wordBetween cX3_wordBetween 4 (some .int) 2 := ⟨wB 641 rfl rfl, wB 110 rfl rfl, by decide +kernel, wB 638 rfl rfl⟩
set_option maxRecDepth 100000 in
theorem kv_X3_wordBetween : xMV yX3_wordBetween 3 RX3 TX3 8 := ⟨rfl, wB 640 rfl rfl, wB 47 rfl rfl⟩
set_option maxRecDepth 100000 in
theorem km_X3_70 : xML RX3 70 yX3_spelling cX3_spelling 1 (some ((.object "java/lang/String"))) 1 := ⟨wB 644 rfl rfl, wB 110 rfl rfl, by decide +kernel, wB 642 rfl rfl⟩
set_option maxRecDepth 100000 in
theorem ks_X3_spelling : Cond.static yX3_spelling ∈ wBig := wB 643 rfl rfl
set_option maxRecDepth 100000 in
theorem km_X3_74 : xML RX3 74 yX3_spells cX3_spells 5 (some .boolean) 3 := ⟨wB 657 rfl rfl, wB 110 rfl rfl, by decide +kernel, wB 654 rfl rfl⟩
set_option maxRecDepth 100000 in
theorem kv_X3_spells : xMV yX3_spells 3 RX3 TX3 8 := ⟨rfl, wB 656 rfl rfl, wB 48 rfl rfl⟩
set_option maxRecDepth 100000 in
theorem km_X3_78 : xML RX3 78 yJ0_length_8abf5 cJ0_length_8abf5 1 (some .int) 0 := ⟨wB 661 rfl rfl, wB 112 rfl rfl, by decide +kernel, wB 658 rfl rfl⟩
set_option maxRecDepth 100000 in
theorem ki_J0_length_8abf5 : Cond.instanceMethod yJ0_length_8abf5 ∈ wBig := wB 659 rfl rfl
set_option maxRecDepth 100000 in
theorem km_J0_335 : xML RJ0 335 yJ0_coder_7d493 cJ0_coder_7d493 1 (some .byte) 0 := ⟨wB 665 rfl rfl, wB 112 rfl rfl, by decide +kernel, wB 662 rfl rfl⟩
set_option maxRecDepth 100000 in
theorem ki_J0_coder_7d493 : Cond.instanceMethod yJ0_coder_7d493 ∈ wBig := wB 663 rfl rfl
set_option maxRecDepth 100000 in
theorem km_X3_84 : xML RX3 84 yJ0_charAt_5068e cJ0_charAt_5068e 2 (some .char) 1 := ⟨wB 671 rfl rfl, wB 112 rfl rfl, by decide +kernel, wB 668 rfl rfl⟩
set_option maxRecDepth 100000 in
theorem ki_J0_charAt_5068e : Cond.instanceMethod yJ0_charAt_5068e ∈ wBig := wB 669 rfl rfl
set_option maxRecDepth 100000 in
theorem km_J0_492 : xML RJ0 492 yJ0_isLatin1_aae02 cJ0_isLatin1_aae02 1 (some .boolean) 0 := ⟨wB 675 rfl rfl, wB 112 rfl rfl, by decide +kernel, wB 672 rfl rfl⟩
set_option maxRecDepth 100000 in
theorem ki_J0_isLatin1_aae02 : Cond.instanceMethod yJ0_isLatin1_aae02 ∈ wBig := wB 673 rfl rfl
set_option maxRecDepth 100000 in
theorem km_J0_495 : xML RJ0 495 yJ1_charAt_3b067 cJ1_charAt_3b067 2 (some .char) 2 := ⟨wB 678 rfl rfl, wB 113 rfl rfl, by decide +kernel, wB 676 rfl rfl⟩
set_option maxRecDepth 100000 in
theorem ks_J1_charAt_3b067 : Cond.static yJ1_charAt_3b067 ∈ wBig := wB 677 rfl rfl
set_option maxRecDepth 100000 in
theorem km_J1_9 : xML RJ1 9 yJ0_checkIndex_df160 cJ0_checkIndex_df160 2 none 2 := ⟨wB 681 rfl rfl, wB 112 rfl rfl, by decide +kernel, wB 679 rfl rfl⟩
set_option maxRecDepth 100000 in
theorem ks_J0_checkIndex_df160 : Cond.static yJ0_checkIndex_df160 ∈ wBig := wB 680 rfl rfl
set_option maxRecDepth 100000 in
theorem km_J0_1059 : xML RJ0 1059 yJ3_checkIndex_8e157 cJ3_checkIndex_8e157 3 (some .int) 3 := ⟨wB 686 rfl rfl, wB 114 rfl rfl, by decide +kernel, wB 684 rfl rfl⟩
set_option maxRecDepth 100000 in
theorem ks_J3_checkIndex_8e157 : Cond.static yJ3_checkIndex_8e157 ∈ wBig := wB 685 rfl rfl
set_option maxRecDepth 100000 in
theorem km_J0_498 : xML RJ0 498 yJ2_charAt_3b067 cJ2_charAt_3b067 2 (some .char) 2 := ⟨wB 689 rfl rfl, wB 115 rfl rfl, by decide +kernel, wB 687 rfl rfl⟩
set_option maxRecDepth 100000 in
theorem ks_J2_charAt_3b067 : Cond.static yJ2_charAt_3b067 ∈ wBig := wB 688 rfl rfl
set_option maxRecDepth 100000 in
theorem km_J2_67 : xML RJ2 67 yJ2_checkIndex_2214a cJ2_checkIndex_2214a 2 none 2 := ⟨wB 692 rfl rfl, wB 115 rfl rfl, by decide +kernel, wB 690 rfl rfl⟩
set_option maxRecDepth 100000 in
theorem ks_J2_checkIndex_2214a : Cond.static yJ2_checkIndex_2214a ∈ wBig := wB 691 rfl rfl
set_option maxRecDepth 100000 in
theorem km_J2_48 : xML RJ2 48 yJ2_length_9d52b cJ2_length_9d52b 1 (some .int) 1 := ⟨wB 695 rfl rfl, wB 115 rfl rfl, by decide +kernel, wB 693 rfl rfl⟩
set_option maxRecDepth 100000 in
theorem ks_J2_length_9d52b : Cond.static yJ2_length_9d52b ∈ wBig := wB 694 rfl rfl
set_option maxRecDepth 100000 in
theorem km_J2_414 : xML RJ2 414 yJ0_checkIndex_df160 cJ0_checkIndex_df160 2 none 2 := ⟨wB 681 rfl rfl, wB 112 rfl rfl, by decide +kernel, wB 696 rfl rfl⟩
set_option maxRecDepth 100000 in
theorem km_J2_71 : xML RJ2 71 yJ2_getChar_3b067 cJ2_getChar_3b067 2 (some .char) 2 := ⟨wB 699 rfl rfl, wB 115 rfl rfl, by decide +kernel, wB 697 rfl rfl⟩
set_option maxRecDepth 100000 in
theorem ks_J2_getChar_3b067 : Cond.static yJ2_getChar_3b067 ∈ wBig := wB 698 rfl rfl
set_option maxRecDepth 100000 in
theorem km_X3_53 : xML RX3 53 yX3_readsNumber cX3_readsNumber 6 (some .boolean) 2 := ⟨wB 709 rfl rfl, wB 110 rfl rfl, by decide +kernel, wB 706 rfl rfl⟩
set_option maxRecDepth 100000 in
theorem kv_X3_readsNumber : xMV yX3_readsNumber 3 RX3 TX3 8 := ⟨rfl, wB 708 rfl rfl, wB 49 rfl rfl⟩
set_option maxRecDepth 100000 in
theorem km_X3_57 : xML RX3 57 yX3_isAt cX3_isAt 2 (some .boolean) 1 := ⟨wB 713 rfl rfl, wB 110 rfl rfl, by decide +kernel, wB 710 rfl rfl⟩
set_option maxRecDepth 100000 in
theorem kv_X3_isAt : xMV yX3_isAt 3 RX3 TX3 8 := ⟨rfl, wB 712 rfl rfl, wB 50 rfl rfl⟩
set_option maxRecDepth 100000 in
theorem km_X3_60 : xML RX3 60 yX3_isAtFigure cX3_isAtFigure 1 (some .boolean) 0 := ⟨wB 717 rfl rfl, wB 110 rfl rfl, by decide +kernel, wB 714 rfl rfl⟩
set_option maxRecDepth 100000 in
theorem kv_X3_isAtFigure : xMV yX3_isAtFigure 3 RX3 TX3 8 := ⟨rfl, wB 716 rfl rfl, wB 51 rfl rfl⟩
set_option maxRecDepth 100000 in
theorem km_X7_141 : xML RX7 141 yX7_blames cX7_blames 3 none 2 := ⟨wB 721 rfl rfl, wB 101 rfl rfl, by decide +kernel, wB 718 rfl rfl⟩
set_option maxRecDepth 100000 in
theorem kv_X7_blames : xMV yX7_blames 7 RX7 TX7 8 := ⟨rfl, wB 720 rfl rfl, wB 52 rfl rfl⟩
set_option maxRecDepth 100000 in
theorem km_X7_148 : xML RX7 148 yX7_obeys cX7_obeys 5 (some .int) 1 := ⟨wB 725 rfl rfl, wB 101 rfl rfl, by decide +kernel, wB 722 rfl rfl⟩
set_option maxRecDepth 100000 in
theorem kv_X7_obeys : xMV yX7_obeys 7 RX7 TX7 8 := ⟨rfl, wB 724 rfl rfl, wB 53 rfl rfl⟩
set_option maxRecDepth 100000 in
theorem km_X7_192 : xMN RX7 192 yX3_number cX3_number 3 (some .int) 2 := ⟨wB 729 rfl rfl, wB 110 rfl rfl, by decide +kernel, nB 626 rfl rfl⟩
set_option maxRecDepth 100000 in
theorem kv_X3_number : xMV yX3_number 3 RX3 TX3 8 := ⟨rfl, wB 728 rfl rfl, wB 54 rfl rfl⟩
set_option maxRecDepth 100000 in
theorem km_X7_151 : xMN RX7 151 yX1_noted cX1_noted 1 (some ((.object "SpeedWarden$State"))) 0 := ⟨wB 733 rfl rfl, wB 109 rfl rfl, by decide +kernel, nB 630 rfl rfl⟩
set_option maxRecDepth 100000 in
theorem kv_X1_noted : xMV yX1_noted 1 RX1 TX1 3 := ⟨rfl, wB 732 rfl rfl, wB 55 rfl rfl⟩
set_option maxRecDepth 100000 in
theorem km_X7_155 : xMN RX7 155 yX4_copies cX4_copies 2 none 1 := ⟨wB 374 rfl rfl, wB 103 rfl rfl, by decide +kernel, nB 634 rfl rfl⟩
set_option maxRecDepth 100000 in
theorem km_L_93 : xML RL 93 yX7_why cX7_why 2 (some .int) 1 := ⟨wB 739 rfl rfl, wB 101 rfl rfl, by decide +kernel, wB 736 rfl rfl⟩
set_option maxRecDepth 100000 in
theorem kv_X7_why : xMV yX7_why 7 RX7 TX7 8 := ⟨rfl, wB 737 rfl rfl, wB 738 rfl rfl⟩
set_option maxRecDepth 100000 in
theorem km_L_97 : xML RL 97 yX7_back cX7_back 1 (some .int) 0 := ⟨wB 743 rfl rfl, wB 101 rfl rfl, by decide +kernel, wB 740 rfl rfl⟩
set_option maxRecDepth 100000 in
theorem kv_X7_back : xMV yX7_back 7 RX7 TX7 8 := ⟨rfl, wB 741 rfl rfl, wB 742 rfl rfl⟩
set_option maxRecDepth 100000 in
theorem km_X7_170 : xMN RX7 170 yX1_takes cX1_takes 1 (some ((.object "SpeedWarden$State"))) 0 := ⟨wB 747 rfl rfl, wB 109 rfl rfl, by decide +kernel, nB 644 rfl rfl⟩
set_option maxRecDepth 100000 in
theorem kv_X1_takes : xMV yX1_takes 1 RX1 TX1 3 := ⟨rfl, wB 746 rfl rfl, wB 56 rfl rfl⟩
set_option maxRecDepth 100000 in
theorem km_L_101 : xML RL 101 yX7_told cX7_told 2 (some .int) 1 := ⟨wB 751 rfl rfl, wB 101 rfl rfl, by decide +kernel, wB 748 rfl rfl⟩
set_option maxRecDepth 100000 in
theorem kv_X7_told : xMV yX7_told 7 RX7 TX7 8 := ⟨rfl, wB 749 rfl rfl, wB 750 rfl rfl⟩
set_option maxRecDepth 100000 in
theorem km_X7_173 : xML RX7 173 yX7_toldValue cX7_toldValue 2 (some .int) 1 := ⟨wB 755 rfl rfl, wB 101 rfl rfl, by decide +kernel, wB 752 rfl rfl⟩
set_option maxRecDepth 100000 in
theorem kv_X7_toldValue : xMV yX7_toldValue 7 RX7 TX7 8 := ⟨rfl, wB 754 rfl rfl, wB 57 rfl rfl⟩
set_option maxRecDepth 100000 in
theorem km_L_105 : xML RL 105 yX7_digest cX7_digest 5 (some .long) 0 := ⟨wB 759 rfl rfl, wB 101 rfl rfl, by decide +kernel, wB 756 rfl rfl⟩
set_option maxRecDepth 100000 in
theorem kv_X7_digest : xMV yX7_digest 7 RX7 TX7 8 := ⟨rfl, wB 757 rfl rfl, wB 758 rfl rfl⟩
set_option maxRecDepth 100000 in
theorem km_L_12 : xML RL 12 yX8_init cX8_init 2 none 0 := ⟨wB 766 rfl rfl, wB 111 rfl rfl, by decide +kernel, wB 764 rfl rfl⟩
set_option maxRecDepth 100000 in
theorem ki_X8_init : Cond.instanceMethod yX8_init ∈ wBig := wB 765 rfl rfl
set_option maxRecDepth 100000 in
theorem km_L_17 : xML RL 17 yX8_lengthens cX8_lengthens 2 (some .int) 1 := ⟨wB 823 rfl rfl, wB 111 rfl rfl, by decide +kernel, wB 820 rfl rfl⟩
set_option maxRecDepth 100000 in
theorem kv_X8_lengthens : xMV yX8_lengthens 8 RX8 TX8 17 := ⟨rfl, wB 821 rfl rfl, wB 822 rfl rfl⟩
set_option maxRecDepth 100000 in
theorem km_X8_56 : xML RX8 56 yX8_mayLengthen cX8_mayLengthen 2 (some .boolean) 1 := ⟨wB 827 rfl rfl, wB 111 rfl rfl, by decide +kernel, wB 824 rfl rfl⟩
set_option maxRecDepth 100000 in
theorem kv_X8_mayLengthen : xMV yX8_mayLengthen 8 RX8 TX8 17 := ⟨rfl, wB 826 rfl rfl, wB 58 rfl rfl⟩
set_option maxRecDepth 100000 in
theorem km_X8_45 : xML RX8 45 yX8_in cX8_in 3 (some .boolean) 3 := ⟨wB 830 rfl rfl, wB 111 rfl rfl, by decide +kernel, wB 828 rfl rfl⟩
set_option maxRecDepth 100000 in
theorem ks_X8_in : Cond.static yX8_in ∈ wBig := wB 829 rfl rfl
set_option maxRecDepth 100000 in
theorem km_X8_60 : xML RX8 60 yX8_bad cX8_bad 1 (some .int) 0 := ⟨wB 834 rfl rfl, wB 111 rfl rfl, by decide +kernel, wB 831 rfl rfl⟩
set_option maxRecDepth 100000 in
theorem kv_X8_bad : xMV yX8_bad 8 RX8 TX8 17 := ⟨rfl, wB 833 rfl rfl, wB 59 rfl rfl⟩
set_option maxRecDepth 100000 in
theorem km_X8_64 : xML RX8 64 yX8_notes cX8_notes 2 none 0 := ⟨wB 838 rfl rfl, wB 111 rfl rfl, by decide +kernel, wB 835 rfl rfl⟩
set_option maxRecDepth 100000 in
theorem kv_X8_notes : xMV yX8_notes 8 RX8 TX8 17 := ⟨rfl, wB 837 rfl rfl, wB 60 rfl rfl⟩
set_option maxRecDepth 100000 in
theorem km_X8_41 : xML RX8 41 yX8_keepTo cX8_keepTo 3 none 1 := ⟨wB 842 rfl rfl, wB 111 rfl rfl, by decide +kernel, wB 839 rfl rfl⟩
set_option maxRecDepth 100000 in
theorem kv_X8_keepTo : xMV yX8_keepTo 8 RX8 TX8 17 := ⟨rfl, wB 841 rfl rfl, wB 61 rfl rfl⟩
set_option maxRecDepth 100000 in
theorem km_X8_67 : xML RX8 67 yX8_lengthen cX8_lengthen 4 (some .int) 1 := ⟨wB 846 rfl rfl, wB 111 rfl rfl, by decide +kernel, wB 843 rfl rfl⟩
set_option maxRecDepth 100000 in
theorem kv_X8_lengthen : xMV yX8_lengthen 8 RX8 TX8 17 := ⟨rfl, wB 845 rfl rfl, wB 62 rfl rfl⟩
set_option maxRecDepth 100000 in
theorem km_L_22 : xML RL 22 yX8_lays cX8_lays 5 (some .int) 4 := ⟨wB 850 rfl rfl, wB 111 rfl rfl, by decide +kernel, wB 847 rfl rfl⟩
set_option maxRecDepth 100000 in
theorem kv_X8_lays : xMV yX8_lays 8 RX8 TX8 17 := ⟨rfl, wB 848 rfl rfl, wB 849 rfl rfl⟩
set_option maxRecDepth 100000 in
theorem km_X8_73 : xML RX8 73 yX8_mayLay cX8_mayLay 6 (some .boolean) 4 := ⟨wB 854 rfl rfl, wB 111 rfl rfl, by decide +kernel, wB 851 rfl rfl⟩
set_option maxRecDepth 100000 in
theorem kv_X8_mayLay : xMV yX8_mayLay 8 RX8 TX8 17 := ⟨rfl, wB 853 rfl rfl, wB 63 rfl rfl⟩
set_option maxRecDepth 100000 in
theorem km_X8_70 : xML RX8 70 yX8_isCell cX8_isCell 2 (some .boolean) 1 := ⟨wB 858 rfl rfl, wB 111 rfl rfl, by decide +kernel, wB 855 rfl rfl⟩
set_option maxRecDepth 100000 in
theorem kv_X8_isCell : xMV yX8_isCell 8 RX8 TX8 17 := ⟨rfl, wB 857 rfl rfl, wB 64 rfl rfl⟩
set_option maxRecDepth 100000 in
theorem km_X8_77 : xML RX8 77 yX8_lay cX8_lay 7 (some .int) 4 := ⟨wB 862 rfl rfl, wB 111 rfl rfl, by decide +kernel, wB 859 rfl rfl⟩
set_option maxRecDepth 100000 in
theorem kv_X8_lay : xMV yX8_lay 8 RX8 TX8 17 := ⟨rfl, wB 861 rfl rfl, wB 65 rfl rfl⟩
set_option maxRecDepth 100000 in
theorem km_L_27 : xML RL 27 yX8_beacon cX8_beacon 3 (some .int) 2 := ⟨wB 866 rfl rfl, wB 111 rfl rfl, by decide +kernel, wB 863 rfl rfl⟩
set_option maxRecDepth 100000 in
theorem kv_X8_beacon : xMV yX8_beacon 8 RX8 TX8 17 := ⟨rfl, wB 864 rfl rfl, wB 865 rfl rfl⟩
set_option maxRecDepth 100000 in
theorem km_X8_81 : xML RX8 81 yX8_signal cX8_signal 4 (some .int) 2 := ⟨wB 870 rfl rfl, wB 111 rfl rfl, by decide +kernel, wB 867 rfl rfl⟩
set_option maxRecDepth 100000 in
theorem kv_X8_signal : xMV yX8_signal 8 RX8 TX8 17 := ⟨rfl, wB 869 rfl rfl, wB 66 rfl rfl⟩
set_option maxRecDepth 100000 in
theorem km_L_31 : xML RL 31 yX8_sets cX8_sets 3 (some .int) 2 := ⟨wB 874 rfl rfl, wB 111 rfl rfl, by decide +kernel, wB 871 rfl rfl⟩
set_option maxRecDepth 100000 in
theorem kv_X8_sets : xMV yX8_sets 8 RX8 TX8 17 := ⟨rfl, wB 872 rfl rfl, wB 873 rfl rfl⟩
set_option maxRecDepth 100000 in
theorem km_X8_85 : xML RX8 85 yX8_maySet cX8_maySet 2 (some .boolean) 2 := ⟨wB 877 rfl rfl, wB 111 rfl rfl, by decide +kernel, wB 875 rfl rfl⟩
set_option maxRecDepth 100000 in
theorem ks_X8_maySet : Cond.static yX8_maySet ∈ wBig := wB 876 rfl rfl
set_option maxRecDepth 100000 in
theorem km_X8_89 : xML RX8 89 yX8_set cX8_set 4 (some .int) 2 := ⟨wB 881 rfl rfl, wB 111 rfl rfl, by decide +kernel, wB 878 rfl rfl⟩
set_option maxRecDepth 100000 in
theorem kv_X8_set : xMV yX8_set 8 RX8 TX8 17 := ⟨rfl, wB 880 rfl rfl, wB 67 rfl rfl⟩
set_option maxRecDepth 100000 in
theorem km_L_35 : xML RL 35 yX8_cell cX8_cell 3 (some .int) 2 := ⟨wB 885 rfl rfl, wB 111 rfl rfl, by decide +kernel, wB 882 rfl rfl⟩
set_option maxRecDepth 100000 in
theorem kv_X8_cell : xMV yX8_cell 8 RX8 TX8 17 := ⟨rfl, wB 883 rfl rfl, wB 884 rfl rfl⟩
set_option maxRecDepth 100000 in
theorem km_X8_98 : xML RX8 98 yX8_tellCell cX8_tellCell 3 (some .int) 2 := ⟨wB 889 rfl rfl, wB 111 rfl rfl, by decide +kernel, wB 886 rfl rfl⟩
set_option maxRecDepth 100000 in
theorem kv_X8_tellCell : xMV yX8_tellCell 8 RX8 TX8 17 := ⟨rfl, wB 888 rfl rfl, wB 68 rfl rfl⟩
set_option maxRecDepth 100000 in
theorem km_X8_53 : xML RX8 53 yX8_ceiling cX8_ceiling 2 (some .int) 1 := ⟨wB 893 rfl rfl, wB 111 rfl rfl, by decide +kernel, wB 890 rfl rfl⟩
set_option maxRecDepth 100000 in
theorem kv_X8_ceiling : xMV yX8_ceiling 8 RX8 TX8 17 := ⟨rfl, wB 892 rfl rfl, wB 69 rfl rfl⟩
set_option maxRecDepth 100000 in
theorem km_X8_49 : xML RX8 49 yX8_grade cX8_grade 2 (some .int) 1 := ⟨wB 897 rfl rfl, wB 111 rfl rfl, by decide +kernel, wB 894 rfl rfl⟩
set_option maxRecDepth 100000 in
theorem kv_X8_grade : xMV yX8_grade 8 RX8 TX8 17 := ⟨rfl, wB 896 rfl rfl, wB 70 rfl rfl⟩
set_option maxRecDepth 100000 in
theorem km_X8_92 : xML RX8 92 yX8_decel cX8_decel 3 (some .int) 1 := ⟨wB 901 rfl rfl, wB 111 rfl rfl, by decide +kernel, wB 898 rfl rfl⟩
set_option maxRecDepth 100000 in
theorem kv_X8_decel : xMV yX8_decel 8 RX8 TX8 17 := ⟨rfl, wB 900 rfl rfl, wB 71 rfl rfl⟩
set_option maxRecDepth 100000 in
theorem km_X8_95 : xML RX8 95 yX8_inForce cX8_inForce 4 (some .int) 1 := ⟨wB 905 rfl rfl, wB 111 rfl rfl, by decide +kernel, wB 902 rfl rfl⟩
set_option maxRecDepth 100000 in
theorem kv_X8_inForce : xMV yX8_inForce 8 RX8 TX8 17 := ⟨rfl, wB 904 rfl rfl, wB 72 rfl rfl⟩
set_option maxRecDepth 100000 in
theorem km_L_39 : xML RL 39 yX8_lawful cX8_lawful 2 (some .int) 1 := ⟨wB 909 rfl rfl, wB 111 rfl rfl, by decide +kernel, wB 906 rfl rfl⟩
set_option maxRecDepth 100000 in
theorem kv_X8_lawful : xMV yX8_lawful 8 RX8 TX8 17 := ⟨rfl, wB 907 rfl rfl, wB 908 rfl rfl⟩
set_option maxRecDepth 100000 in
theorem km_X8_101 : xML RX8 101 yX8_lawfuls cX8_lawfuls 4 none 0 := ⟨wB 913 rfl rfl, wB 111 rfl rfl, by decide +kernel, wB 910 rfl rfl⟩
set_option maxRecDepth 100000 in
theorem kv_X8_lawfuls : xMV yX8_lawfuls 8 RX8 TX8 17 := ⟨rfl, wB 912 rfl rfl, wB 73 rfl rfl⟩
set_option maxRecDepth 100000 in
theorem km_L_43 : xML RL 43 yX8_permitted cX8_permitted 2 (some .int) 1 := ⟨wB 917 rfl rfl, wB 111 rfl rfl, by decide +kernel, wB 914 rfl rfl⟩
set_option maxRecDepth 100000 in
theorem kv_X8_permitted : xMV yX8_permitted 8 RX8 TX8 17 := ⟨rfl, wB 915 rfl rfl, wB 916 rfl rfl⟩
set_option maxRecDepth 100000 in
theorem km_X8_104 : xML RX8 104 yX8_root cX8_root 2 (some .int) 1 := ⟨wB 920 rfl rfl, wB 111 rfl rfl, by decide +kernel, wB 918 rfl rfl⟩
set_option maxRecDepth 100000 in
theorem ks_X8_root : Cond.static yX8_root ∈ wBig := wB 919 rfl rfl
set_option maxRecDepth 100000 in
theorem km_L_47 : xML RL 47 yX8_bound cX8_bound 4 (some .int) 1 := ⟨wB 924 rfl rfl, wB 111 rfl rfl, by decide +kernel, wB 921 rfl rfl⟩
set_option maxRecDepth 100000 in
theorem kv_X8_bound : xMV yX8_bound 8 RX8 TX8 17 := ⟨rfl, wB 922 rfl rfl, wB 923 rfl rfl⟩
set_option maxRecDepth 100000 in
theorem km_L_51 : xML RL 51 yX8_stands cX8_stands 3 (some .int) 2 := ⟨wB 928 rfl rfl, wB 111 rfl rfl, by decide +kernel, wB 925 rfl rfl⟩
set_option maxRecDepth 100000 in
theorem kv_X8_stands : xMV yX8_stands 8 RX8 TX8 17 := ⟨rfl, wB 926 rfl rfl, wB 927 rfl rfl⟩
set_option maxRecDepth 100000 in
theorem km_X8_107 : xML RX8 107 yX8_standing cX8_standing 5 (some .int) 2 := ⟨wB 932 rfl rfl, wB 111 rfl rfl, by decide +kernel, wB 929 rfl rfl⟩
set_option maxRecDepth 100000 in
theorem kv_X8_standing : xMV yX8_standing 8 RX8 TX8 17 := ⟨rfl, wB 931 rfl rfl, wB 74 rfl rfl⟩
set_option maxRecDepth 100000 in
theorem km_L_55 : xML RL 55 yX8_speed cX8_speed 4 (some .int) 2 := ⟨wB 936 rfl rfl, wB 111 rfl rfl, by decide +kernel, wB 933 rfl rfl⟩
set_option maxRecDepth 100000 in
theorem kv_X8_speed : xMV yX8_speed 8 RX8 TX8 17 := ⟨rfl, wB 934 rfl rfl, wB 935 rfl rfl⟩
set_option maxRecDepth 100000 in
theorem km_L_59 : xML RL 59 yX8_many cX8_many 4 (some .int) 1 := ⟨wB 940 rfl rfl, wB 111 rfl rfl, by decide +kernel, wB 937 rfl rfl⟩
set_option maxRecDepth 100000 in
theorem kv_X8_many : xMV yX8_many 8 RX8 TX8 17 := ⟨rfl, wB 938 rfl rfl, wB 939 rfl rfl⟩
set_option maxRecDepth 100000 in
theorem km_L_63 : xML RL 63 yX8_places cX8_places 3 (some .int) 2 := ⟨wB 944 rfl rfl, wB 111 rfl rfl, by decide +kernel, wB 941 rfl rfl⟩
set_option maxRecDepth 100000 in
theorem kv_X8_places : xMV yX8_places 8 RX8 TX8 17 := ⟨rfl, wB 942 rfl rfl, wB 943 rfl rfl⟩
set_option maxRecDepth 100000 in
theorem km_X8_128 : xML RX8 128 yX8_supervises cX8_supervises 2 none 0 := ⟨wB 948 rfl rfl, wB 111 rfl rfl, by decide +kernel, wB 945 rfl rfl⟩
set_option maxRecDepth 100000 in
theorem kv_X8_supervises : xMV yX8_supervises 8 RX8 TX8 17 := ⟨rfl, wB 947 rfl rfl, wB 75 rfl rfl⟩
set_option maxRecDepth 100000 in
theorem km_X8_122 : xML RX8 122 yX8_sees cX8_sees 1 (some .int) 0 := ⟨wB 952 rfl rfl, wB 111 rfl rfl, by decide +kernel, wB 949 rfl rfl⟩
set_option maxRecDepth 100000 in
theorem kv_X8_sees : xMV yX8_sees 8 RX8 TX8 17 := ⟨rfl, wB 951 rfl rfl, wB 76 rfl rfl⟩
set_option maxRecDepth 100000 in
theorem km_X8_113 : xML RX8 113 yX8_first cX8_first 1 (some .int) 0 := ⟨wB 956 rfl rfl, wB 111 rfl rfl, by decide +kernel, wB 953 rfl rfl⟩
set_option maxRecDepth 100000 in
theorem kv_X8_first : xMV yX8_first 8 RX8 TX8 17 := ⟨rfl, wB 955 rfl rfl, wB 77 rfl rfl⟩
set_option maxRecDepth 100000 in
theorem km_X8_110 : xML RX8 110 yX8_cellAt cX8_cellAt 2 (some .int) 1 := ⟨wB 960 rfl rfl, wB 111 rfl rfl, by decide +kernel, wB 957 rfl rfl⟩
set_option maxRecDepth 100000 in
theorem kv_X8_cellAt : xMV yX8_cellAt 8 RX8 TX8 17 := ⟨rfl, wB 959 rfl rfl, wB 78 rfl rfl⟩
set_option maxRecDepth 100000 in
theorem km_X8_116 : xML RX8 116 yX8_last cX8_last 1 (some .int) 0 := ⟨wB 964 rfl rfl, wB 111 rfl rfl, by decide +kernel, wB 961 rfl rfl⟩
set_option maxRecDepth 100000 in
theorem kv_X8_last : xMV yX8_last 8 RX8 TX8 17 := ⟨rfl, wB 963 rfl rfl, wB 79 rfl rfl⟩
set_option maxRecDepth 100000 in
theorem km_X8_119 : xML RX8 119 yX8_leastOf cX8_leastOf 5 (some .int) 2 := ⟨wB 968 rfl rfl, wB 111 rfl rfl, by decide +kernel, wB 965 rfl rfl⟩
set_option maxRecDepth 100000 in
theorem kv_X8_leastOf : xMV yX8_leastOf 8 RX8 TX8 17 := ⟨rfl, wB 967 rfl rfl, wB 80 rfl rfl⟩
set_option maxRecDepth 100000 in
theorem km_L_67 : xML RL 67 yX8_steps cX8_steps 2 (some .int) 1 := ⟨wB 972 rfl rfl, wB 111 rfl rfl, by decide +kernel, wB 969 rfl rfl⟩
set_option maxRecDepth 100000 in
theorem kv_X8_steps : xMV yX8_steps 8 RX8 TX8 17 := ⟨rfl, wB 970 rfl rfl, wB 971 rfl rfl⟩
set_option maxRecDepth 100000 in
theorem km_X8_131 : xML RX8 131 yX8_goesOn cX8_goesOn 4 (some .boolean) 1 := ⟨wB 976 rfl rfl, wB 111 rfl rfl, by decide +kernel, wB 973 rfl rfl⟩
set_option maxRecDepth 100000 in
theorem kv_X8_goesOn : xMV yX8_goesOn 8 RX8 TX8 17 := ⟨rfl, wB 975 rfl rfl, wB 81 rfl rfl⟩
set_option maxRecDepth 100000 in
theorem km_X8_125 : xML RX8 125 yX8_gainOf cX8_gainOf 5 (some .int) 2 := ⟨wB 980 rfl rfl, wB 111 rfl rfl, by decide +kernel, wB 977 rfl rfl⟩
set_option maxRecDepth 100000 in
theorem kv_X8_gainOf : xMV yX8_gainOf 8 RX8 TX8 17 := ⟨rfl, wB 979 rfl rfl, wB 82 rfl rfl⟩
set_option maxRecDepth 100000 in
theorem km_L_71 : xML RL 71 yX8_drives cX8_drives 6 (some .int) 1 := ⟨wB 984 rfl rfl, wB 111 rfl rfl, by decide +kernel, wB 981 rfl rfl⟩
set_option maxRecDepth 100000 in
theorem kv_X8_drives : xMV yX8_drives 8 RX8 TX8 17 := ⟨rfl, wB 982 rfl rfl, wB 983 rfl rfl⟩
set_option maxRecDepth 100000 in
theorem km_X8_134 : xML RX8 134 yX8_handle cX8_handle 4 (some .int) 0 := ⟨wB 988 rfl rfl, wB 111 rfl rfl, by decide +kernel, wB 985 rfl rfl⟩
set_option maxRecDepth 100000 in
theorem kv_X8_handle : xMV yX8_handle 8 RX8 TX8 17 := ⟨rfl, wB 987 rfl rfl, wB 83 rfl rfl⟩
set_option maxRecDepth 100000 in
theorem km_L_76 : xML RL 76 yX8_frees cX8_frees 1 (some .int) 0 := ⟨wB 992 rfl rfl, wB 111 rfl rfl, by decide +kernel, wB 989 rfl rfl⟩
set_option maxRecDepth 100000 in
theorem kv_X8_frees : xMV yX8_frees 8 RX8 TX8 17 := ⟨rfl, wB 990 rfl rfl, wB 991 rfl rfl⟩
set_option maxRecDepth 100000 in
theorem km_X8_137 : xML RX8 137 yX8_no cX8_no 1 (some .int) 0 := ⟨wB 996 rfl rfl, wB 111 rfl rfl, by decide +kernel, wB 993 rfl rfl⟩
set_option maxRecDepth 100000 in
theorem kv_X8_no : xMV yX8_no 8 RX8 TX8 17 := ⟨rfl, wB 995 rfl rfl, wB 84 rfl rfl⟩
set_option maxRecDepth 100000 in
theorem km_L_80 : xML RL 80 yX8_train cX8_train 2 (some .int) 1 := ⟨wB 1000 rfl rfl, wB 111 rfl rfl, by decide +kernel, wB 997 rfl rfl⟩
set_option maxRecDepth 100000 in
theorem kv_X8_train : xMV yX8_train 8 RX8 TX8 17 := ⟨rfl, wB 998 rfl rfl, wB 999 rfl rfl⟩
set_option maxRecDepth 100000 in
theorem km_X8_140 : xML RX8 140 yX8_tellTrain cX8_tellTrain 2 (some .int) 1 := ⟨wB 1004 rfl rfl, wB 111 rfl rfl, by decide +kernel, wB 1001 rfl rfl⟩
set_option maxRecDepth 100000 in
theorem kv_X8_tellTrain : xMV yX8_tellTrain 8 RX8 TX8 17 := ⟨rfl, wB 1003 rfl rfl, wB 85 rfl rfl⟩
set_option maxRecDepth 100000 in
theorem km_L_84 : xML RL 84 yX8_type cX8_type 2 (some .int) 1 := ⟨wB 1008 rfl rfl, wB 111 rfl rfl, by decide +kernel, wB 1005 rfl rfl⟩
set_option maxRecDepth 100000 in
theorem kv_X8_type : xMV yX8_type 8 RX8 TX8 17 := ⟨rfl, wB 1006 rfl rfl, wB 1007 rfl rfl⟩
set_option maxRecDepth 100000 in
theorem km_L_88 : xML RL 88 yX8_clear cX8_clear 2 (some .int) 0 := ⟨wB 1012 rfl rfl, wB 111 rfl rfl, by decide +kernel, wB 1009 rfl rfl⟩
set_option maxRecDepth 100000 in
theorem kv_X8_clear : xMV yX8_clear 8 RX8 TX8 17 := ⟨rfl, wB 1010 rfl rfl, wB 1011 rfl rfl⟩
set_option maxRecDepth 100000 in
theorem km_L_92 : xML RL 92 yX8_does cX8_does 2 (some .int) 0 := ⟨wB 1016 rfl rfl, wB 111 rfl rfl, by decide +kernel, wB 1013 rfl rfl⟩
set_option maxRecDepth 100000 in
theorem kv_X8_does : xMV yX8_does 8 RX8 TX8 17 := ⟨rfl, wB 1014 rfl rfl, wB 1015 rfl rfl⟩
set_option maxRecDepth 100000 in
theorem km_X8_189 : xML RX8 189 yX8_reads cX8_reads 2 (some .boolean) 0 := ⟨wB 1020 rfl rfl, wB 111 rfl rfl, by decide +kernel, wB 1017 rfl rfl⟩
set_option maxRecDepth 100000 in
theorem kv_X8_reads : xMV yX8_reads 8 RX8 TX8 17 := ⟨rfl, wB 1019 rfl rfl, wB 86 rfl rfl⟩
set_option maxRecDepth 100000 in
theorem km_X8_162 : xML RX8 162 yX8_skips cX8_skips 1 none 0 := ⟨wB 1024 rfl rfl, wB 111 rfl rfl, by decide +kernel, wB 1021 rfl rfl⟩
set_option maxRecDepth 100000 in
theorem kv_X8_skips : xMV yX8_skips 8 RX8 TX8 17 := ⟨rfl, wB 1023 rfl rfl, wB 87 rfl rfl⟩
set_option maxRecDepth 100000 in
theorem km_X8_152 : xML RX8 152 yX8_here cX8_here 1 (some .int) 0 := ⟨wB 1028 rfl rfl, wB 111 rfl rfl, by decide +kernel, wB 1025 rfl rfl⟩
set_option maxRecDepth 100000 in
theorem kv_X8_here : xMV yX8_here 8 RX8 TX8 17 := ⟨rfl, wB 1027 rfl rfl, wB 88 rfl rfl⟩
set_option maxRecDepth 100000 in
theorem km_X8_186 : xML RX8 186 yX8_order cX8_order 6 (some .boolean) 0 := ⟨wB 1032 rfl rfl, wB 111 rfl rfl, by decide +kernel, wB 1029 rfl rfl⟩
set_option maxRecDepth 100000 in
theorem kv_X8_order : xMV yX8_order 8 RX8 TX8 17 := ⟨rfl, wB 1031 rfl rfl, wB 89 rfl rfl⟩
set_option maxRecDepth 100000 in
theorem km_X8_165 : xML RX8 165 yX8_stopsHere cX8_stopsHere 1 (some .boolean) 0 := ⟨wB 1036 rfl rfl, wB 111 rfl rfl, by decide +kernel, wB 1033 rfl rfl⟩
set_option maxRecDepth 100000 in
theorem kv_X8_stopsHere : xMV yX8_stopsHere 8 RX8 TX8 17 := ⟨rfl, wB 1035 rfl rfl, wB 90 rfl rfl⟩
set_option maxRecDepth 100000 in
theorem km_X8_172 : xML RX8 172 yX8_wordFrom cX8_wordFrom 6 (some .int) 1 := ⟨wB 1040 rfl rfl, wB 111 rfl rfl, by decide +kernel, wB 1037 rfl rfl⟩
set_option maxRecDepth 100000 in
theorem kv_X8_wordFrom : xMV yX8_wordFrom 8 RX8 TX8 17 := ⟨rfl, wB 1039 rfl rfl, wB 91 rfl rfl⟩
set_option maxRecDepth 100000 in
theorem km_X8_155 : xML RX8 155 yX8_spells cX8_spells 6 (some .boolean) 5 := ⟨wB 1044 rfl rfl, wB 111 rfl rfl, by decide +kernel, wB 1041 rfl rfl⟩
set_option maxRecDepth 100000 in
theorem kv_X8_spells : xMV yX8_spells 8 RX8 TX8 17 := ⟨rfl, wB 1043 rfl rfl, wB 92 rfl rfl⟩
set_option maxRecDepth 100000 in
theorem km_X8_182 : xML RX8 182 yX8_number cX8_number 6 (some .boolean) 2 := ⟨wB 1048 rfl rfl, wB 111 rfl rfl, by decide +kernel, wB 1045 rfl rfl⟩
set_option maxRecDepth 100000 in
theorem kv_X8_number : xMV yX8_number 8 RX8 TX8 17 := ⟨rfl, wB 1047 rfl rfl, wB 93 rfl rfl⟩
set_option maxRecDepth 100000 in
theorem km_X8_169 : xML RX8 169 yX8_isFigure cX8_isFigure 1 (some .boolean) 0 := ⟨wB 1052 rfl rfl, wB 111 rfl rfl, by decide +kernel, wB 1049 rfl rfl⟩
set_option maxRecDepth 100000 in
theorem kv_X8_isFigure : xMV yX8_isFigure 8 RX8 TX8 17 := ⟨rfl, wB 1051 rfl rfl, wB 94 rfl rfl⟩
set_option maxRecDepth 100000 in
theorem km_X8_195 : xML RX8 195 yX8_isDone cX8_isDone 8 (some .boolean) 1 := ⟨wB 1056 rfl rfl, wB 111 rfl rfl, by decide +kernel, wB 1053 rfl rfl⟩
set_option maxRecDepth 100000 in
theorem kv_X8_isDone : xMV yX8_isDone 8 RX8 TX8 17 := ⟨rfl, wB 1055 rfl rfl, wB 95 rfl rfl⟩
set_option maxRecDepth 100000 in
theorem km_X8_198 : xML RX8 198 yX8_takeFrom cX8_takeFrom 3 none 1 := ⟨wB 1060 rfl rfl, wB 111 rfl rfl, by decide +kernel, wB 1057 rfl rfl⟩
set_option maxRecDepth 100000 in
theorem kv_X8_takeFrom : xMV yX8_takeFrom 8 RX8 TX8 17 := ⟨rfl, wB 1059 rfl rfl, wB 96 rfl rfl⟩
set_option maxRecDepth 100000 in
theorem km_X8_201 : xML RX8 201 yX8_leaves cX8_leaves 2 none 0 := ⟨wB 1064 rfl rfl, wB 111 rfl rfl, by decide +kernel, wB 1061 rfl rfl⟩
set_option maxRecDepth 100000 in
theorem kv_X8_leaves : xMV yX8_leaves 8 RX8 TX8 17 := ⟨rfl, wB 1063 rfl rfl, wB 97 rfl rfl⟩
set_option maxRecDepth 100000 in
theorem km_L_96 : xML RL 96 yX8_why cX8_why 2 (some .int) 1 := ⟨wB 1068 rfl rfl, wB 111 rfl rfl, by decide +kernel, wB 1065 rfl rfl⟩
set_option maxRecDepth 100000 in
theorem kv_X8_why : xMV yX8_why 8 RX8 TX8 17 := ⟨rfl, wB 1066 rfl rfl, wB 1067 rfl rfl⟩
set_option maxRecDepth 100000 in
theorem km_X8_204 : xML RX8 204 yX8_tellWhy cX8_tellWhy 2 (some .int) 1 := ⟨wB 1072 rfl rfl, wB 111 rfl rfl, by decide +kernel, wB 1069 rfl rfl⟩
set_option maxRecDepth 100000 in
theorem kv_X8_tellWhy : xMV yX8_tellWhy 8 RX8 TX8 17 := ⟨rfl, wB 1071 rfl rfl, wB 98 rfl rfl⟩
set_option maxRecDepth 100000 in
theorem km_L_100 : xML RL 100 yX8_back cX8_back 1 (some .int) 0 := ⟨wB 1076 rfl rfl, wB 111 rfl rfl, by decide +kernel, wB 1073 rfl rfl⟩
set_option maxRecDepth 100000 in
theorem kv_X8_back : xMV yX8_back 8 RX8 TX8 17 := ⟨rfl, wB 1074 rfl rfl, wB 1075 rfl rfl⟩
set_option maxRecDepth 100000 in
theorem km_L_104 : xML RL 104 yX8_told cX8_told 2 (some .int) 1 := ⟨wB 1080 rfl rfl, wB 111 rfl rfl, by decide +kernel, wB 1077 rfl rfl⟩
set_option maxRecDepth 100000 in
theorem kv_X8_told : xMV yX8_told 8 RX8 TX8 17 := ⟨rfl, wB 1078 rfl rfl, wB 1079 rfl rfl⟩
set_option maxRecDepth 100000 in
theorem km_X8_207 : xML RX8 207 yX8_tell cX8_tell 2 (some .int) 1 := ⟨wB 1084 rfl rfl, wB 111 rfl rfl, by decide +kernel, wB 1081 rfl rfl⟩
set_option maxRecDepth 100000 in
theorem kv_X8_tell : xMV yX8_tell 8 RX8 TX8 17 := ⟨rfl, wB 1083 rfl rfl, wB 99 rfl rfl⟩
set_option maxRecDepth 100000 in
theorem km_L_109 : xML RL 109 yX8_digest cX8_digest 5 (some .long) 0 := ⟨wB 1088 rfl rfl, wB 111 rfl rfl, by decide +kernel, wB 1085 rfl rfl⟩
set_option maxRecDepth 100000 in
theorem kv_X8_digest : xMV yX8_digest 8 RX8 TX8 17 := ⟨rfl, wB 1086 rfl rfl, wB 1087 rfl rfl⟩
set_option maxRecDepth 100000 in
theorem km_X8_214 : xML RX8 214 yX8_more cX8_more 3 (some .long) 2 := ⟨wB 1092 rfl rfl, wB 111 rfl rfl, by decide +kernel, wB 1090 rfl rfl⟩
set_option maxRecDepth 100000 in
theorem ks_X8_more : Cond.static yX8_more ∈ wBig := wB 1091 rfl rfl
end
section
/-! rows on plain numbers and on truth values -/
def bI (b : Prop) [Decidable b] : Int32 := if b then 1 else 0
theorem bI_t {b : Prop} [Decidable b] (h : b) : bI b = 1 := if_pos h
theorem bI_f {b : Prop} [Decidable b] (h : ¬ b) : bI b = 0 := if_neg h
theorem bI_01 (b : Prop) [Decidable b] : bI b = 0 ∨ bI b = 1 := by
  by_cases h : b
  · exact Or.inr (bI_t h)
  · exact Or.inl (bI_f h)
theorem bI_0 {b : Prop} [Decidable b] : bI b = 0 ↔ ¬ b := by
  by_cases h : b
  · simp [bI, h]
  · simp [bI, h]
theorem lv_re {ls : Array Slot} {nL : Nat} {l l' : List (Nat × Value)} (h : lv_has ls nL l) (e : l = l') : lv_has ls nL l' := e ▸ h
section XN
variable {l : Launch} {g : xCfg} {p : Program} {e : Env} {R : Room} {s : State} {m : MethodId} {args : Array Value} {below : List Frame} {meth : Method} {c : Code} {cc : ByteArray} {nL : Nat} {own : String} {A : Nat → Prop} {ws ws' : va_W} {H : Heap} {locs : List Loc} {cells slots : Nat} {Q : State → Prop} {pc : Nat} {ls : Array Slot} {rest : List Value}
theorem n_lt {a b : Nat} (ha : a < 2 ^ 31) (hb : b < 2 ^ 31) : nI a < nI b ↔ a < b := nI_ltI ha hb
theorem n_le {a b : Nat} (ha : a < 2 ^ 31) (hb : b < 2 ^ 31) : nI a ≤ nI b ↔ a ≤ b := nI_leI ha hb
theorem n_eq {a b : Nat} (ha : a < 2 ^ 31) (hb : b < 2 ^ 31) : nI a = nI b ↔ a = b := nI_eq ha hb
theorem xn_lt (hx : p.tables.exec = Jvm.exec) (hb : c.code = cc) {i j : Int32} (a b : Nat) (hi : i = nI a) (hj : j = nI b) (h1 : a < 2 ^ 31) (h2 : b < 2 ^ 31) {off : Int} {tgt : Nat} (hdg : decode cc pc = .ok (.if_icmp .lt off, 3)) (ht : (pc : Int) + off = (tgt : Int))
    (kt : a < b → W p l e R s m args below meth c H locs cells slots Q (F0 m tgt ls rest)) (kf : b ≤ a → W p l e R s m args below meth c H locs cells slots Q (F0 m (pc + 3) ls rest)) : W p l e R s m args below meth c H locs cells slots Q (F0 m pc ls (.int j :: .int i :: rest)) :=
  lv_icmp_lt hx hb hdg ht (fun h => kt ((n_lt h1 h2).mp (by rw [← hi, ← hj]; exact h))) (fun h => kf (Nat.le_of_not_lt fun z => h (by rw [hi, hj]; exact (n_lt h1 h2).mpr z)))
theorem xn_ge (hx : p.tables.exec = Jvm.exec) (hb : c.code = cc) {i j : Int32} (a b : Nat) (hi : i = nI a) (hj : j = nI b) (h1 : a < 2 ^ 31) (h2 : b < 2 ^ 31) {off : Int} {tgt : Nat} (hdg : decode cc pc = .ok (.if_icmp .ge off, 3)) (ht : (pc : Int) + off = (tgt : Int))
    (kt : b ≤ a → W p l e R s m args below meth c H locs cells slots Q (F0 m tgt ls rest)) (kf : a < b → W p l e R s m args below meth c H locs cells slots Q (F0 m (pc + 3) ls rest)) : W p l e R s m args below meth c H locs cells slots Q (F0 m pc ls (.int j :: .int i :: rest)) :=
  lv_icmp_ge hx hb hdg ht (fun h => kt ((n_le h2 h1).mp (by rw [← hi, ← hj]; exact h))) (fun h => kf (Nat.lt_of_not_le fun z => h (by rw [hi, hj]; exact (n_le h2 h1).mpr z)))
theorem xn_gt (hx : p.tables.exec = Jvm.exec) (hb : c.code = cc) {i j : Int32} (a b : Nat) (hi : i = nI a) (hj : j = nI b) (h1 : a < 2 ^ 31) (h2 : b < 2 ^ 31) {off : Int} {tgt : Nat} (hdg : decode cc pc = .ok (.if_icmp .gt off, 3)) (ht : (pc : Int) + off = (tgt : Int))
    (kt : b < a → W p l e R s m args below meth c H locs cells slots Q (F0 m tgt ls rest)) (kf : a ≤ b → W p l e R s m args below meth c H locs cells slots Q (F0 m (pc + 3) ls rest)) : W p l e R s m args below meth c H locs cells slots Q (F0 m pc ls (.int j :: .int i :: rest)) :=
  lv_icmp_gt hx hb hdg ht (fun h => kt ((n_lt h2 h1).mp (by rw [← hi, ← hj]; exact h))) (fun h => kf (Nat.le_of_not_lt fun z => h (by rw [hi, hj]; exact (n_lt h2 h1).mpr z)))
theorem xn_le (hx : p.tables.exec = Jvm.exec) (hb : c.code = cc) {i j : Int32} (a b : Nat) (hi : i = nI a) (hj : j = nI b) (h1 : a < 2 ^ 31) (h2 : b < 2 ^ 31) {off : Int} {tgt : Nat} (hdg : decode cc pc = .ok (.if_icmp .le off, 3)) (ht : (pc : Int) + off = (tgt : Int))
    (kt : a ≤ b → W p l e R s m args below meth c H locs cells slots Q (F0 m tgt ls rest)) (kf : b < a → W p l e R s m args below meth c H locs cells slots Q (F0 m (pc + 3) ls rest)) : W p l e R s m args below meth c H locs cells slots Q (F0 m pc ls (.int j :: .int i :: rest)) :=
  lv_icmp_le hx hb hdg ht (fun h => kt ((n_le h1 h2).mp (by rw [← hi, ← hj]; exact h))) (fun h => kf (Nat.lt_of_not_le fun z => h (by rw [hi, hj]; exact (n_le h1 h2).mpr z)))
theorem xn_eq (hx : p.tables.exec = Jvm.exec) (hb : c.code = cc) {i j : Int32} (a b : Nat) (hi : i = nI a) (hj : j = nI b) (h1 : a < 2 ^ 31) (h2 : b < 2 ^ 31) {off : Int} {tgt : Nat} (hdg : decode cc pc = .ok (.if_icmp .eq off, 3)) (ht : (pc : Int) + off = (tgt : Int))
    (kt : a = b → W p l e R s m args below meth c H locs cells slots Q (F0 m tgt ls rest)) (kf : a ≠ b → W p l e R s m args below meth c H locs cells slots Q (F0 m (pc + 3) ls rest)) : W p l e R s m args below meth c H locs cells slots Q (F0 m pc ls (.int j :: .int i :: rest)) :=
  lv_icmp_eq hx hb hdg ht (fun h => kt ((n_eq h1 h2).mp (by rw [← hi, ← hj]; exact h))) (fun h => kf (fun z => h (by rw [hi, hj]; exact (n_eq h1 h2).mpr z)))
theorem xn_ne (hx : p.tables.exec = Jvm.exec) (hb : c.code = cc) {i j : Int32} (a b : Nat) (hi : i = nI a) (hj : j = nI b) (h1 : a < 2 ^ 31) (h2 : b < 2 ^ 31) {off : Int} {tgt : Nat} (hdg : decode cc pc = .ok (.if_icmp .ne off, 3)) (ht : (pc : Int) + off = (tgt : Int))
    (kt : a ≠ b → W p l e R s m args below meth c H locs cells slots Q (F0 m tgt ls rest)) (kf : a = b → W p l e R s m args below meth c H locs cells slots Q (F0 m (pc + 3) ls rest)) : W p l e R s m args below meth c H locs cells slots Q (F0 m pc ls (.int j :: .int i :: rest)) :=
  lv_icmp_ne hx hb hdg ht (fun h => kt (fun z => h (by rw [hi, hj]; exact (n_eq h1 h2).mpr z))) (fun h => kf ((n_eq h1 h2).mp (by rw [← hi, ← hj]; exact h)))
/-- against 0 -/
theorem xz_eq (hx : p.tables.exec = Jvm.exec) (hb : c.code = cc) {i : Int32} (a : Nat) (hi : i = nI a) (h1 : a < 2 ^ 31) {off : Int} {tgt : Nat} (hdg : decode cc pc = .ok (.ifCond .eq off, 3)) (ht : (pc : Int) + off = (tgt : Int))
    (kt : a = 0 → W p l e R s m args below meth c H locs cells slots Q (F0 m tgt ls rest)) (kf : 0 < a → W p l e R s m args below meth c H locs cells slots Q (F0 m (pc + 3) ls rest)) : W p l e R s m args below meth c H locs cells slots Q (F0 m pc ls (.int i :: rest)) :=
  lv_if_eq hx hb hdg ht (fun h => kt ((n_eq h1 (by decide)).mp (by rw [← hi]; exact h))) (fun h => kf (Nat.pos_of_ne_zero fun z => h (by rw [hi, z]; rfl)))
theorem xz_ne (hx : p.tables.exec = Jvm.exec) (hb : c.code = cc) {i : Int32} (a : Nat) (hi : i = nI a) (h1 : a < 2 ^ 31) {off : Int} {tgt : Nat} (hdg : decode cc pc = .ok (.ifCond .ne off, 3)) (ht : (pc : Int) + off = (tgt : Int))
    (kt : 0 < a → W p l e R s m args below meth c H locs cells slots Q (F0 m tgt ls rest)) (kf : a = 0 → W p l e R s m args below meth c H locs cells slots Q (F0 m (pc + 3) ls rest)) : W p l e R s m args below meth c H locs cells slots Q (F0 m pc ls (.int i :: rest)) :=
  lv_if_ne hx hb hdg ht (fun h => kt (Nat.pos_of_ne_zero fun z => h (by rw [hi, z]; rfl))) (fun h => kf ((n_eq h1 (by decide)).mp (by rw [← hi]; exact h)))
theorem xz_le (hx : p.tables.exec = Jvm.exec) (hb : c.code = cc) {i : Int32} (a : Nat) (hi : i = nI a) (h1 : a < 2 ^ 31) {off : Int} {tgt : Nat} (hdg : decode cc pc = .ok (.ifCond .le off, 3)) (ht : (pc : Int) + off = (tgt : Int))
    (kt : a = 0 → W p l e R s m args below meth c H locs cells slots Q (F0 m tgt ls rest)) (kf : 0 < a → W p l e R s m args below meth c H locs cells slots Q (F0 m (pc + 3) ls rest)) : W p l e R s m args below meth c H locs cells slots Q (F0 m pc ls (.int i :: rest)) :=
  lv_if_le hx hb hdg ht (fun h => kt (Nat.le_zero.mp ((n_le h1 (by decide)).mp (by rw [← hi]; exact h)))) (fun h => kf (Nat.pos_of_ne_zero fun z => h (by rw [hi, z]; exact (n_le (by decide) (by decide)).mpr (Nat.le_refl 0))))
theorem xb_eq (hx : p.tables.exec = Jvm.exec) (hb : c.code = cc) {P : Prop} [Decidable P] {off : Int} {tgt : Nat} (hdg : decode cc pc = .ok (.ifCond .eq off, 3)) (ht : (pc : Int) + off = (tgt : Int))
    (kt : ¬ P → W p l e R s m args below meth c H locs cells slots Q (F0 m tgt ls rest)) (kf : P → W p l e R s m args below meth c H locs cells slots Q (F0 m (pc + 3) ls rest)) : W p l e R s m args below meth c H locs cells slots Q (F0 m pc ls (.int (bI P) :: rest)) :=
  lv_if_eq hx hb hdg ht (fun h => kt (bI_0.mp h)) (fun h => kf (Decidable.not_not.mp (fun z => h (bI_0.mpr z))))
theorem xb_ne (hx : p.tables.exec = Jvm.exec) (hb : c.code = cc) {P : Prop} [Decidable P] {off : Int} {tgt : Nat} (hdg : decode cc pc = .ok (.ifCond .ne off, 3)) (ht : (pc : Int) + off = (tgt : Int))
    (kt : P → W p l e R s m args below meth c H locs cells slots Q (F0 m tgt ls rest)) (kf : ¬ P → W p l e R s m args below meth c H locs cells slots Q (F0 m (pc + 3) ls rest)) : W p l e R s m args below meth c H locs cells slots Q (F0 m pc ls (.int (bI P) :: rest)) :=
  lv_if_ne hx hb hdg ht (fun h => kt (Decidable.not_not.mp (fun z => h (bI_0.mpr z)))) (fun h => kf (bI_0.mp h))
/-- the top of the stack under another name -/
theorem x_top {v v' : Value} (h : v = v') (kk : W p l e R s m args below meth c H locs cells slots Q (F0 m pc ls (v' :: rest))) : W p l e R s m args below meth c H locs cells slots Q (F0 m pc ls (v :: rest)) := h ▸ kk
theorem x_topi {x x' : Int32} (h : x = x') (kk : W p l e R s m args below meth c H locs cells slots Q (F0 m pc ls (.int x' :: rest))) : W p l e R s m args below meth c H locs cells slots Q (F0 m pc ls (.int x :: rest)) := h ▸ kk
theorem xn_add (hx : p.tables.exec = Jvm.exec) (hb : c.code = cc) (a b : Nat) {i j : Int32} (hi : i = nI a) (hj : j = nI b) (hdg : decode cc pc = .ok (.iadd, 1)) (kk : W p l e R s m args below meth c H locs cells slots Q (F0 m (pc + 1) ls (.int (nI (a + b)) :: rest))) : W p l e R s m args below meth c H locs cells slots Q (F0 m pc ls (.int j :: .int i :: rest)) :=
  lv_iadd hx hb hdg (by rw [hi, hj, nI_add]; exact kk)
theorem xn_mul (hx : p.tables.exec = Jvm.exec) (hb : c.code = cc) (a b : Nat) {i j : Int32} (hi : i = nI a) (hj : j = nI b) (hdg : decode cc pc = .ok (.imul, 1)) (kk : W p l e R s m args below meth c H locs cells slots Q (F0 m (pc + 1) ls (.int (nI (a * b)) :: rest))) : W p l e R s m args below meth c H locs cells slots Q (F0 m pc ls (.int j :: .int i :: rest)) :=
  lv_imul hx hb hdg (by rw [hi, hj, pk_mul]; exact kk)
theorem xn_sub (hx : p.tables.exec = Jvm.exec) (hb : c.code = cc) (a b : Nat) {i j : Int32} (hi : i = nI a) (hj : j = nI b) (h : b ≤ a) (hdg : decode cc pc = .ok (.isub, 1)) (kk : W p l e R s m args below meth c H locs cells slots Q (F0 m (pc + 1) ls (.int (nI (a - b)) :: rest))) : W p l e R s m args below meth c H locs cells slots Q (F0 m pc ls (.int j :: .int i :: rest)) :=
  lv_isub hx hb hdg (by rw [hi, hj, pk_sub h]; exact kk)
/-- int rows, the read value under its name -/
theorem x_ld {a : Nat} (E : xE g p s m args meth c cc nL own A) (hw : xW g A s ws H locs) (q0 : Nat) {n : Nat} {f : Nat → Int32} (he : ws[q0]? = some (a, .inl (g.2.1, n, .inl f))) {i v : Int32} (j : Nat) (hi : i = nI j) (hj : j < n) (hn : n < 2 ^ 31) (hv : f j = v) (hdg : decode cc pc = .ok (.iaload, 1))
    (kk : W p l e R s m args below meth c H locs cells slots Q (F0 m (pc + 1) ls (.int v :: rest))) : W p l e R s m args below meth c H locs cells slots Q (F0 m pc ls (.int i :: .ref a :: rest)) := by
  subst hv
  exact x_ild E hw q0 he j hi hj hn hdg kk
theorem x_len {a : Nat} (E : xE g p s m args meth c cc nL own A) (hw : xW g A s ws H locs) (q0 : Nat) {n : Nat} {f : Nat → Int32} (he : ws[q0]? = some (a, .inl (g.2.1, n, .inl f))) (hdg : decode cc pc = .ok (.arraylength, 1))
    (kk : W p l e R s m args below meth c H locs cells slots Q (F0 m (pc + 1) ls (.int (nI n) :: rest))) : W p l e R s m args below meth c H locs cells slots Q (F0 m pc ls (.ref a :: rest)) :=
  va_alen E.x E.b E.2.2.2.1 hw.1 q0 0 he rfl (v := nI n) rfl hdg kk
theorem xr_i {post : Option Value → va_W → Prop} {v : Int32} {w1 : va_W} (hQ : Q = MQ below (xQ g A post) args s cells slots A) (E : xE g p s m args meth c cc nL own A) (hr : meth.sig.returnType = some .int) (hw : xW g A s w1 H locs) (hdg : decode cc pc = .ok (.ireturn, 1)) (hp : post (some (.int v)) w1) : W p l e R s m args below meth c H locs cells slots Q (F0 m pc ls [.int v]) := by
  subst hQ
  exact x_iret E hr hw hdg hp
theorem xr_z {post : Option Value → va_W → Prop} {v : Int32} {w1 : va_W} (hQ : Q = MQ below (xQ g A post) args s cells slots A) (E : xE g p s m args meth c cc nL own A) (hr : meth.sig.returnType = some .boolean) (hw : xW g A s w1 H locs) (hdg : decode cc pc = .ok (.ireturn, 1)) (hv : v = 0 ∨ v = 1) (hp : post (some (.int v)) w1) : W p l e R s m args below meth c H locs cells slots Q (F0 m pc ls [.int v]) := by
  subst hQ
  exact x_zret E hr hw hdg hv hp
theorem xr_l {post : Option Value → va_W → Prop} {v : Int64} {w1 : va_W} (hQ : Q = MQ below (xQ g A post) args s cells slots A) (E : xE g p s m args meth c cc nL own A) (hr : meth.sig.returnType = some .long) (hw : xW g A s w1 H locs) (hdg : decode cc pc = .ok (.lreturn, 1)) (hp : post (some (.long v)) w1) : W p l e R s m args below meth c H locs cells slots Q (F0 m pc ls [.long v]) := by
  subst hQ
  exact x_lret E hr hw hdg hp
theorem xr_a {post : Option Value → va_W → Prop} {a : Nat} {n : String} {w1 : va_W} (hQ : Q = MQ below (xQ g A post) args s cells slots A) (E : xE g p s m args meth c cc nL own A) (hr : meth.sig.returnType = some (.object n)) (hw : xW g A s w1 H locs) (hdg : decode cc pc = .ok (.areturn, 1)) (hp : post (some (.ref a)) w1) : W p l e R s m args below meth c H locs cells slots Q (F0 m pc ls [.ref a]) := by
  subst hQ
  exact x_aret E hr hw hdg hp
theorem xr_v {post : Option Value → va_W → Prop} {w1 : va_W} (hQ : Q = MQ below (xQ g A post) args s cells slots A) (E : xE g p s m args meth c cc nL own A) (hr : meth.sig.returnType = none) (hw : xW g A s w1 H locs) (hdg : decode cc pc = .ok (.return_, 1)) (hp : post none w1) : W p l e R s m args below meth c H locs cells slots Q (F0 m pc ls []) := by
  subst hQ
  exact x_vret E hr hw hdg hp
/-- the whole of a method: what is to be shown of its body -/
theorem Ct.walk {y : MethodName} {ret : Option FieldType} {rm : Room} {av : List Value} {w0 : va_W} {post : Option Value → va_W → Prop} (hy : plainName y.cls = true) (hn : (lg_sl av).length ≤ nL)
    (k : ∀ (p : Program) (e : Env) (s : State) (m : MethodId) (below : List Frame) (meth : Method) (c : Code) (A : Nat → Prop) (ls : Array Slot) (Q : State → Prop), Q = MQ below (xQ g A post) av.toArray s rm.cells rm.slots A → xE g p s m av.toArray meth c cc nL y.cls A → meth.sig.returnType = ret → meth.name = y.name → xW g A s w0 s.heap [] → lv_has ls nL (lv_args 0 av) →
      W p l e rm s m av.toArray below meth c s.heap [] 0 0 Q (F0 m 0 ls [])) : Ct l g y cc nL ret rm av w0 post :=
  Ct.body hy hn (fun p e s m below meth c A ls E h1 h2 hw hl => k p e s m below meth c A ls _ rfl E h1 h2 hw hl)
/-- a switch over a table, at a known number -/
theorem x_sw (hx : p.tables.exec = Jvm.exec) (hb : c.code = cc) {dflt lo hi : Int} {offs : Array Int} {len : Nat} {x v : Int32} {off : Int} {tgt : Nat} (hdg : decode cc pc = .ok (.tableswitch dflt lo hi offs, len)) (hv : x = v) (h1 : ¬ v.toInt < lo) (h2 : ¬ hi < v.toInt) (ho : offs[(v.toInt - lo).toNat]? = some off) (ht : (pc : Int) + off = (tgt : Int))
    (k : W p l e R s m args below meth c H locs cells slots Q (F0 m tgt ls rest)) : W p l e R s m args below meth c H locs cells slots Q (F0 m pc ls (.int x :: rest)) := by
  subst hv
  exact lv_tableIn hx hb hdg h1 h2 ho ht k
/-- a whole row copied -/
theorem x_copy {a0 a1 n q0 q1 index : Nat} {f f1 : Nat → Int32} (E : xE g p s m args meth c cc nL own A) (hw : xW g A s ws H locs) (k1 : Cond.methodLink own index arraycopyName ∈ wBig ∧ Cond.native arraycopyName ∈ wBig ∧ Cond.static arraycopyName ∈ wBig ∧ Cond.initialized "java/lang/System" ∈ wBig) (ha0 : ws[q0]? = some (a0, .inl (g.2.1, n, .inl f))) (ha1 : ws[q1]? = some (a1, .inl (g.2.1, n, .inl f1))) (hn : n < 2 ^ 31) (hls : ls.size = nL) {z1 z2 z : Int32} (hz1 : z1 = 0) (hz2 : z2 = 0) (hz : z = nI n) (hfr : 1 ≤ R.frames) (hlo : (rest.map fun v => v.category).sum + (nativeFrameWords "java/lang/System" "arraycopy" 5 + 11) ≤ R.locals) (hws : ws.set q1 (a1, .inl (g.2.1, n, .inl f)) = ws') (hdg : decode cc pc = .ok (.invokestatic index, 3))
    (kk : ∀ (H1 : Heap) (locs1 : List Loc), xW g A s ws' H1 locs1 → W p l e R s m args below meth c H1 locs1 cells slots Q (F0 m (pc + 3) ls rest)) : W p l e R s m args below meth c H locs cells slots Q (F0 m pc ls (.int z :: .int z2 :: .ref a1 :: .int z1 :: .ref a0 :: rest)) := by
  subst hz1 hz2 hz hws
  have e0 : (0 : Int32).toNatClampNeg = 0 := rfl
  have e1 : (nI n).toNatClampNeg = n := nI_clamp hn
  refine va_copyi E.x E.b (E.ml.trans hls.symm) E.ow (E.ts _ k1.1) (E.ts _ k1.2.1) (E.ts _ k1.2.2.1) (E.ts _ k1.2.2.2) E.2.2.2.1 hw.1 hw.2.1 hw.2.2 q0 q1 0 0 ha0 ha1 rfl rfl rfl (by decide) (by decide) (nI_pos hn) (by rw [e0, e1]; omega) (by rw [e0, e1]; omega) (fun _ _ => rfl) hfr hlo hdg ?_
  intro H1 l1 h1 h2 h3
  have hw1 : xW g A s _ H1 l1 := ⟨h1, h2, h3⟩
  have hq : q1 < ws.length := (List.getElem?_eq_some_iff.mp ha1).1
  refine kk H1 l1 (hw1.arr (f' := f) q1 (List.getElem?_set_self hq) ?_ (List.set_set _))
  intro j hj
  rw [e0, e1]
  unfold va_cpy
  rw [if_pos ⟨Nat.zero_le j, by omega⟩]
  congr 1
  omega
/-- a static row -/
theorem x_tld {t N : Nat} {f : Nat → Int32} (E : xE g p s m args meth c cc nL own A) (hw : xW g A s ws H locs) (hT : va_T .int t N (fun k => .int (f k)) A s s.heap) {i v : Int32} (j : Nat) (hi : i = nI j) (hj : j < N) (hN : N < 2 ^ 31) (hv : f j = v) (hdg : decode cc pc = .ok (.iaload, 1))
    (kk : W p l e R s m args below meth c H locs cells slots Q (F0 m (pc + 1) ls (.int v :: rest))) : W p l e R s m args below meth c H locs cells slots Q (F0 m pc ls (.int i :: .ref t :: rest)) := by
  subst hi hv
  refine va_ti E.x E.b hT hw.2.2 (vp_in_nI hj hN) ?_ hdg kk
  rw [nI_clamp (Nat.lt_trans hj hN)]
theorem x_out {x : Int32} (n : Nat) {hi : Int} (hn : n < 2 ^ 31) (hh : hi + 1 = (n : Int)) (h : ∀ k, k < n → x ≠ nI k) : x.toInt < 0 ∨ hi < x.toInt := by
  by_cases h0 : x.toInt < 0
  · exact Or.inl h0
  · refine Or.inr (Int.not_le.mp fun hle => ?_)
    have h1 : vp_in x n := vp_in_iff.mpr ⟨by omega, by omega⟩
    obtain ⟨j, hj, e⟩ := vp_in_of h1 hn
    exact h j hj e
theorem nI_dec (j : Nat) : nI j + Int32.ofInt (-1) = nI j - 1 := by
  have h : Int32.ofInt (-1) = -1 := by decide
  rw [h, ← Int32.sub_eq_add_neg]
theorem nI_m1lt {k : Nat} (hk : k < 2 ^ 31) : nI k - 1 < 0 ↔ k = 0 := by
  cases k with
  | zero => exact ⟨fun _ => rfl, fun _ => by decide⟩
  | succ j =>
    rw [nI_pred]
    exact ⟨fun h => absurd h (nI_pos (by omega)), fun h => by omega⟩
theorem xp_lt (hx : p.tables.exec = Jvm.exec) (hb : c.code = cc) (k : Nat) (hk : k < 2 ^ 31) {off : Int} {tgt : Nat} (hdg : decode cc pc = .ok (.ifCond .lt off, 3)) (ht : (pc : Int) + off = (tgt : Int))
    (kt : k = 0 → W p l e R s m args below meth c H locs cells slots Q (F0 m tgt ls rest)) (kf : 0 < k → W p l e R s m args below meth c H locs cells slots Q (F0 m (pc + 3) ls rest)) : W p l e R s m args below meth c H locs cells slots Q (F0 m pc ls (.int (nI k - 1) :: rest)) :=
  lv_if_lt hx hb hdg ht (fun h => kt ((nI_m1lt hk).mp h)) (fun h => kf (Nat.pos_of_ne_zero fun z => h ((nI_m1lt hk).mpr z)))
end XN
end
section

/-- a cell's DECEL out of BRAKE and GRADE -/
def dcl (b gd : Int32) : Int32 := if 1 < b + gd then b + gd else 1
/-- how many of a .. b - 1 hold another value than v; the row with v there -/
def cntNe (f : Nat → Int32) (v : Int32) (a : Nat) : Nat → Nat
  | 0 => 0
  | b + 1 => cntNe f v a b + if a ≤ b ∧ f b ≠ v then 1 else 0
def filF (f : Nat → Int32) (v : Int32) (a b : Nat) : Nat → Int32 := fun j => if a ≤ j ∧ j < b then v else f j
theorem cntNe_lo (f : Nat → Int32) (v : Int32) (a : Nat) : ∀ b, b ≤ a → cntNe f v a b = 0
  | 0, _ => rfl
  | b + 1, h => by rw [cntNe, cntNe_lo f v a b (by omega), if_neg (by omega)]
theorem cntNe_nil (f : Nat → Int32) (v : Int32) (a : Nat) : cntNe f v a a = 0 := cntNe_lo f v a a (Nat.le_refl a)
theorem cntNe_ne (f : Nat → Int32) (v : Int32) (a x : Nat) (h : a ≤ x) (hn : ¬ f x = v) : cntNe f v a (x + 1) = cntNe f v a x + 1 := by rw [cntNe, if_pos ⟨h, hn⟩]
theorem cntNe_eq (f : Nat → Int32) (v : Int32) (a x : Nat) (hn : f x = v) : cntNe f v a (x + 1) = cntNe f v a x := by rw [cntNe, if_neg (fun h => h.2 hn), Nat.add_zero]
theorem filF_nil (f : Nat → Int32) (v : Int32) (a j : Nat) : filF f v a a j = f j := if_neg (by omega)
theorem filF_at (f : Nat → Int32) (v : Int32) (a b : Nat) : filF f v a b b = f b := if_neg (by omega)
theorem filF_st (f : Nat → Int32) (v : Int32) (a x : Nat) (h : a ≤ x) (j : Nat) : upd (filF f v a x) x v j = filF f v a (x + 1) j := by
  unfold upd filF
  by_cases hj : j = x
  · rw [if_pos hj, if_pos (by omega)]
  · rw [if_neg hj]
    by_cases h2 : a ≤ j ∧ j < x
    · rw [if_pos h2, if_pos (by omega)]
    · rw [if_neg h2, if_neg (by omega)]
theorem filF_eq (f : Nat → Int32) (v : Int32) (a x : Nat) (h : a ≤ x) (he : f x = v) (j : Nat) : filF f v a x j = filF f v a (x + 1) j := by
  unfold filF
  by_cases hj : j = x
  · subst hj
    rw [if_neg (by omega), if_pos (by omega), he]
  · by_cases h2 : a ≤ j ∧ j < x
    · rw [if_pos h2, if_pos (by omega)]
    · rw [if_neg h2, if_neg (by omega)]

set_option maxRecDepth 100000 in
set_option maxHeartbeats 4000000 in
/-- least to most -/
theorem c_X7_within (l : Launch) (g : xCfg) (v : Int32) (lo : Int32) (hi : Int32)  : Ct l g yX7_within cX7_within 3 (some .boolean) (xR 0 0) [.int v, .int lo, .int hi] [] (is1 (some (.int (bI (lo ≤ v ∧ v ≤ hi)))) []) := by
  refine Ct.walk (by decide) (Nat.le_of_ble_eq_true rfl) ?_
  intro p0 e0 s0 m0 below meth c0 A0 ls Q hQ E hr hnm hw hl
  have hx := E.x
  have hb := E.b
  have hl : lv_has ls 3 [(0, .int v), (1, .int lo), (2, .int hi)] := hl
  refine lv_iload_n hx hb dX7_within_0 rfl (lv_at hl 0 rfl) ?_
  refine lv_iload_n hx hb dX7_within_1 rfl (lv_at hl 1 rfl) ?_
  refine lv_icmp_lt (tgt := 14) hx hb dX7_within_2 (by decide) (fun c_1 => ?_) (fun c_1 => ?_)
  · refine lv_iconst (v := 0) hx hb dX7_within_14 (by decide) ?_
    exact xr_z hQ E hr hw dX7_within_15 (by decide) ⟨congrArg (fun z => some (Value.int z)) (by unfold bI; split <;> first | rfl | (exfalso; simp only [Int32.lt_iff_toInt_lt, Int32.le_iff_toInt_le] at *; omega)), rfl⟩
  · refine lv_iload_n hx hb dX7_within_5 rfl (lv_at hl 0 rfl) ?_
    refine lv_iload_n hx hb dX7_within_6 rfl (lv_at hl 2 rfl) ?_
    refine lv_icmp_gt (tgt := 14) hx hb dX7_within_7 (by decide) (fun c_2 => ?_) (fun c_2 => ?_)
    · refine lv_iconst (v := 0) hx hb dX7_within_14 (by decide) ?_
      exact xr_z hQ E hr hw dX7_within_15 (by decide) ⟨congrArg (fun z => some (Value.int z)) (by unfold bI; split <;> first | rfl | (exfalso; simp only [Int32.lt_iff_toInt_lt, Int32.le_iff_toInt_le] at *; omega)), rfl⟩
    · refine lv_iconst (v := 1) hx hb dX7_within_10 (by decide) ?_
      refine lv_goto (tgt := 15) hx hb dX7_within_11 (by decide) ?_
      exact xr_z hQ E hr hw dX7_within_15 (by decide) ⟨congrArg (fun z => some (Value.int z)) (by unfold bI; split <;> first | rfl | (exfalso; simp only [Int32.lt_iff_toInt_lt, Int32.le_iff_toInt_le] at *; omega)), rfl⟩

theorem c_X7_within_ok (l : Launch) (g : xCfg) (v lo hi : Int32) (h1 : lo ≤ v) (h2 : v ≤ hi) : Ct l g yX7_within cX7_within 3 (some .boolean) (xR 0 0) [.int v, .int lo, .int hi] [] (is1 (some (.int 1)) []) := by
  have h := c_X7_within l g v lo hi
  rw [bI_t ⟨h1, h2⟩] at h
  exact h

set_option maxRecDepth 100000 in
set_option maxHeartbeats 4000000 in
theorem c_X5_has (l : Launch) (g : xCfg) (h : Nat → Nat) (L : Nat) (x : Int32) (hL : 1 ≤ L) : Ct l g yX5_has cX5_has 2 (some .boolean) (xR 1 22) [.ref (h 2), .int x] [(h 2, .inr (5, [.int (nI L), .ref (h 3), .ref (h 4), .ref (h 5), .ref (h 6)]))] (is1 (some (.int (bI (0 ≤ x ∧ x ≤ nI (L - 1))))) [(h 2, .inr (5, [.int (nI L), .ref (h 3), .ref (h 4), .ref (h 5), .ref (h 6)]))]) := by
  refine Ct.walk (by decide) (Nat.le_of_ble_eq_true rfl) ?_
  intro p0 e0 s0 m0 below meth c0 A0 ls Q hQ E hr hnm hw hl
  have hx := E.x
  have hb := E.b
  have hl : lv_has ls 2 [(0, .ref (h 2)), (1, .int x)] := hl
  refine lv_iload_n hx hb dX5_has_0 rfl (lv_at hl 1 rfl) ?_
  refine lv_iconst (v := 0) hx hb dX5_has_1 (by decide) ?_
  refine lv_aload_n hx hb dX5_has_2 rfl (lv_at hl 0 rfl) ?_
  refine x_get E hw kf_X5_27 0 rfl rfl dX5_has_3 ?_
  refine lv_iconst (v := 1) hx hb dX5_has_6 (by decide) ?_
  refine xn_sub hx hb L 1 rfl rfl (by omega) dX5_has_7 ?_
  refine x_go (ws' := [(h 2, .inr (5, [.int (nI L), .ref (h 3), .ref (h 4), .ref (h 5), .ref (h 6)]))]) (st1 := [.int (bI (0 ≤ x ∧ x ≤ (nI (L - 1))))]) E hw [] rfl (x_runSN (rest := []) E hw (c_X7_within l g x 0 (nI (L - 1)) ) km_X5_37 ks_X7_within [] rfl (by decide) hl.1 rfl rfl (Nat.le_of_ble_eq_true rfl) ⟨Nat.le_of_ble_eq_true rfl, Nat.le_of_ble_eq_true rfl⟩ ⟨Nat.zero_le _, Nat.zero_le _⟩ dX5_has_8) rfl rfl rfl (fun H locs hw => ?_)
  exact xr_z hQ E hr hw dX5_has_11 (bI_01 _) ⟨rfl, rfl⟩

theorem c_X5_has_ok (l : Launch) (g : xCfg) (h : Nat → Nat) (L : Nat) (x : Nat) (hL : L ≤ 200) (hx : x < L) : Ct l g yX5_has cX5_has 2 (some .boolean) (xR 1 22) [.ref (h 2), .int (nI x)] [(h 2, .inr (5, [.int (nI L), .ref (h 3), .ref (h 4), .ref (h 5), .ref (h 6)]))] (is1 (some (.int 1)) [(h 2, .inr (5, [.int (nI L), .ref (h 3), .ref (h 4), .ref (h 5), .ref (h 6)]))]) := by
  have k := c_X5_has l g h L (nI x) (by omega)
  rw [bI_t ⟨nI_pos' (by omega), nI_le (by omega) (by omega)⟩] at k
  exact k

set_option maxRecDepth 100000 in
set_option maxHeartbeats 4000000 in
theorem c_X5_decel (l : Launch) (g : xCfg) (h : Nat → Nat) (L : Nat) (gr : Nat → Int32) (st : Nat → Int32) (x : Nat) (hx0 : x < 200) : Ct l g yX5_decel cX5_decel 2 (some .int) (xR 1 13) [.ref (h 2), .int (nI x)] [(h 2, .inr (5, [.int (nI L), .ref (h 3), .ref (h 4), .ref (h 5), .ref (h 6)])), (h 4, .inl (g.2.1, 200, .inl gr)), (h 6, .inl (g.2.1, 7, .inl st))] (is1 (some (.int (dcl (st 0) (gr x)))) [(h 2, .inr (5, [.int (nI L), .ref (h 3), .ref (h 4), .ref (h 5), .ref (h 6)])), (h 4, .inl (g.2.1, 200, .inl gr)), (h 6, .inl (g.2.1, 7, .inl st))]) := by
  refine Ct.walk (by decide) (Nat.le_of_ble_eq_true rfl) ?_
  intro p0 e0 s0 m0 below meth c0 A0 ls Q hQ E hr hnm hw hl
  have hx := E.x
  have hb := E.b
  have hl : lv_has ls 2 [(0, .ref (h 2)), (1, .int (nI x))] := hl
  refine lv_iconst (v := 1) hx hb dX5_decel_0 (by decide) ?_
  refine lv_aload_n hx hb dX5_decel_1 rfl (lv_at hl 0 rfl) ?_
  refine x_get E hw kf_X5_24 0 rfl rfl dX5_decel_2 ?_
  refine lv_iconst (v := 0) hx hb dX5_decel_5 (by decide) ?_
  refine x_ld (v := st 0) E hw 2 rfl 0 rfl (by omega) (by decide) rfl dX5_decel_6 ?_
  refine lv_aload_n hx hb dX5_decel_7 rfl (lv_at hl 0 rfl) ?_
  refine x_get E hw kf_X5_15 0 rfl rfl dX5_decel_8 ?_
  refine lv_iload_n hx hb dX5_decel_11 rfl (lv_at hl 1 rfl) ?_
  refine x_ld (v := gr x) E hw 1 rfl x rfl (by omega) (by decide) rfl dX5_decel_12 ?_
  refine lv_iadd hx hb dX5_decel_13 ?_
  refine x_max E km_X5_41 hl.1 (Nat.le_of_ble_eq_true rfl) (Nat.le_of_ble_eq_true rfl) ⟨Nat.zero_le _, Nat.zero_le _⟩ dX5_decel_14 ?_
  exact xr_i hQ E hr hw dX5_decel_17 ⟨rfl, rfl⟩

set_option maxRecDepth 100000 in
set_option maxHeartbeats 4000000 in
theorem c_X5_marked_ok (l : Launch) (g : xCfg) (h : Nat → Nat) (L : Nat) (be : Nat → Int32) (a : Nat) (on : Int32) (hL2 : L ≤ 200) (ha : a < L) (ho : 0 ≤ on) (ho2 : on ≤ 1) : Ct l g yX5_marked cX5_marked 4 (some .int) (xR 2 43) [.ref (h 2), .int (nI a), .int on] [(h 2, .inr (5, [.int (nI L), .ref (h 3), .ref (h 4), .ref (h 5), .ref (h 6)])), (h 5, .inl (g.2.1, 200, .inl be))] (is1 (some (.int (be a))) [(h 2, .inr (5, [.int (nI L), .ref (h 3), .ref (h 4), .ref (h 5), .ref (h 6)])), (h 5, .inl (g.2.1, 200, .inl (upd be a on)))]) := by
  refine Ct.walk (by decide) (Nat.le_of_ble_eq_true rfl) ?_
  intro p0 e0 s0 m0 below meth c0 A0 ls Q hQ E hr hnm hw hl
  have hx := E.x
  have hb := E.b
  have hl : lv_has ls 4 [(0, .ref (h 2)), (1, .int (nI a)), (2, .int on)] := hl
  refine lv_aload_n hx hb dX5_marked_0 rfl (lv_at hl 0 rfl) ?_
  refine lv_iload_n hx hb dX5_marked_1 rfl (lv_at hl 1 rfl) ?_
  refine x_go (ws' := [(h 2, .inr (5, [.int (nI L), .ref (h 3), .ref (h 4), .ref (h 5), .ref (h 6)])), (h 5, .inl (g.2.1, 200, .inl be))]) (st1 := [.int 1]) E hw [0] rfl (x_runV (rest := []) E hw (c_X5_has_ok l g h L a (by omega) (by omega)) km_X5_47 kv_X5_has [0] rfl (by decide) 0 rfl hl.1 rfl rfl (Nat.le_of_ble_eq_true rfl) ⟨Nat.le_of_ble_eq_true rfl, Nat.le_of_ble_eq_true rfl⟩ ⟨Nat.zero_le _, Nat.zero_le _⟩ dX5_marked_2) rfl rfl rfl (fun H locs hw => ?_)
  refine lv_if_eq (tgt := 17) hx hb dX5_marked_5 (by decide) (fun h => absurd h (by decide)) (fun _ => ?_)
  refine lv_iload_n hx hb dX5_marked_8 rfl (lv_at hl 2 rfl) ?_
  refine lv_iconst (v := 0) hx hb dX5_marked_9 (by decide) ?_
  refine lv_iconst (v := 1) hx hb dX5_marked_10 (by decide) ?_
  refine x_go (ws' := [(h 2, .inr (5, [.int (nI L), .ref (h 3), .ref (h 4), .ref (h 5), .ref (h 6)])), (h 5, .inl (g.2.1, 200, .inl be))]) (st1 := [.int 1]) E hw [] rfl (x_runSN (rest := []) E hw (c_X7_within_ok l g on 0 1 ho ho2) km_X5_37 ks_X7_within [] rfl (by decide) hl.1 rfl rfl (Nat.le_of_ble_eq_true rfl) ⟨Nat.le_of_ble_eq_true rfl, Nat.le_of_ble_eq_true rfl⟩ ⟨Nat.zero_le _, Nat.zero_le _⟩ dX5_marked_11) rfl rfl rfl (fun H locs hw => ?_)
  refine lv_if_ne (tgt := 20) hx hb dX5_marked_14 (by decide) (fun _ => ?_) (fun h => absurd h (by decide))
  refine lv_aload_n hx hb dX5_marked_20 rfl (lv_at hl 0 rfl) ?_
  refine x_get E hw kf_X5_18 0 rfl rfl dX5_marked_21 ?_
  refine lv_iload_n hx hb dX5_marked_24 rfl (lv_at hl 1 rfl) ?_
  refine x_ld (v := be a) E hw 1 rfl a rfl (by omega) (by decide) rfl dX5_marked_25 ?_
  refine lv_istore_n (lv' := [(3, .int (be a)), (0, .ref (h 2)), (1, .int (nI a)), (2, .int on)]) hx hb dX5_marked_26 rfl hl (by decide) rfl (fun ls hl => ?_)
  refine lv_aload_n hx hb dX5_marked_27 rfl (lv_at hl 1 rfl) ?_
  refine x_get E hw kf_X5_18 0 rfl rfl dX5_marked_28 ?_
  refine lv_iload_n hx hb dX5_marked_31 rfl (lv_at hl 2 rfl) ?_
  refine lv_iload_n hx hb dX5_marked_32 rfl (lv_at hl 3 rfl) ?_
  refine x_ist E hw 1 rfl a rfl (by omega) (by decide) (ws' := [(h 2, .inr (5, [.int (nI L), .ref (h 3), .ref (h 4), .ref (h 5), .ref (h 6)])), (h 5, .inl (g.2.1, 200, .inl (upd be a on)))]) rfl dX5_marked_33 (fun H locs hw => ?_)
  refine lv_iload_n hx hb dX5_marked_34 rfl (lv_at hl 0 rfl) ?_
  exact xr_i hQ E hr hw dX5_marked_35 ⟨rfl, rfl⟩

set_option maxRecDepth 100000 in
set_option maxHeartbeats 4000000 in
theorem c_X5_filled (l : Launch) (g : xCfg) (q : Nat) (f : Nat → Int32) (a : Nat) (z : Nat) (v : Int32) (hz : z < 200) (ha : a ≤ z + 1) : Ct l g yX5_filled cX5_filled 6 (some .int) (xR 0 0) [.ref q, .int (nI a), .int (nI z), .int v] [(q, .inl (g.2.1, 200, .inl f))] (is1 (some (.int (nI (cntNe f v a (z + 1))))) [(q, .inl (g.2.1, 200, .inl (filF f v a (z + 1))))]) := by
  refine Ct.walk (by decide) (Nat.le_of_ble_eq_true rfl) ?_
  intro p0 e0 s0 m0 below meth c0 A0 ls Q hQ E hr hnm hw hl
  have hx := E.x
  have hb := E.b
  have hl : lv_has ls 6 [(0, .ref q), (1, .int (nI a)), (2, .int (nI z)), (3, .int v)] := hl
  refine lv_iconst (v := 0) hx hb dX5_filled_0 (by decide) ?_
  refine lv_istore (lv' := [(4, .int 0), (0, .ref q), (1, .int (nI a)), (2, .int (nI z)), (3, .int v)]) hx hb dX5_filled_1 hl (by decide) rfl (fun ls hl => ?_)
  refine lv_iload_n hx hb dX5_filled_3 rfl (lv_at hl 2 rfl) ?_
  refine lv_istore (lv' := [(5, .int (nI a)), (4, .int 0), (0, .ref q), (1, .int (nI a)), (2, .int (nI z)), (3, .int v)]) hx hb dX5_filled_4 hl (by decide) rfl (fun ls hl => ?_)
  have lp_6 : ∀ (fuel : Nat) (x : Nat), z + 1 - x < fuel → a ≤ x → x ≤ z + 1 → ∀ (H : Heap) (locs : List Loc) (ls : Array Slot), xW g A0 s0 [(q, .inl (g.2.1, 200, .inl (filF f v a x)))] H locs → lv_has ls 6 [(5, .int (nI x)), (4, .int (nI (cntNe f v a x))), (0, .ref q), (2, .int (nI z)), (3, .int v)] → W p0 l e0 (xR 0 0) s0 m0 [.ref q, .int (nI a), .int (nI z), .int v].toArray below meth c0 H locs 0 0 Q (F0 m0 6 ls []) := by
    intro fuel
    induction fuel with
    | zero => intro x hm; exact absurd hm (Nat.not_lt_zero _)
    | succ fuel ih =>
      intro x hm h1 h2 H locs ls hw hl
      refine lv_iload hx hb dX5_filled_6 (lv_at hl 0 rfl) ?_
      refine lv_iload_n hx hb dX5_filled_8 rfl (lv_at hl 3 rfl) ?_
      refine xn_gt (tgt := 34) hx hb x z rfl rfl (by omega) (by omega) dX5_filled_9 (by decide) (fun c_1 => ?_) (fun c_1 => ?_)
      · obtain rfl : x = z + 1 := by omega
        refine lv_iload hx hb dX5_filled_34 (lv_at hl 1 rfl) ?_
        exact xr_i hQ E hr hw dX5_filled_36 ⟨rfl, rfl⟩
      · refine lv_aload_n hx hb dX5_filled_12 rfl (lv_at hl 2 rfl) ?_
        refine lv_iload hx hb dX5_filled_13 (lv_at hl 0 rfl) ?_
        refine x_ld (v := f x) E hw 0 rfl x rfl (by omega) (by decide) (filF_at f v a x) dX5_filled_15 ?_
        refine lv_iload_n hx hb dX5_filled_16 rfl (lv_at hl 4 rfl) ?_
        refine lv_icmp_eq (tgt := 28) hx hb dX5_filled_17 (by decide) (fun ce => ?_) (fun ce => ?_)
        · refine lv_iinc (v := nI (x + 1)) (lv' := [(5, .int (nI (x + 1))), (4, .int (nI (cntNe f v a x))), (0, .ref q), (2, .int (nI z)), (3, .int v)]) hx hb dX5_filled_28 hl (k := 0) rfl (nI_1 _) (by decide) rfl (fun ls hl => ?_)
          refine lv_goto (tgt := 6) hx hb dX5_filled_31 (by decide) ?_
          have hw := hw.arr (f' := (filF f v a (x + 1))) (ws' := [(q, .inl (g.2.1, 200, .inl (filF f v a (x + 1))))]) 0 rfl (fun j _ => filF_eq f v a x h1 ce j) rfl
          have hl : lv_has ls 6 [(5, .int (nI (x + 1))), (4, .int (nI (cntNe f v a x))), (0, .ref q), (2, .int (nI z)), (3, .int v)] := lv_sub hl [0, 1, 2, 3, 4] rfl
          have hl : lv_has ls 6 [(5, .int (nI (x + 1))), (4, .int (nI (cntNe f v a (x + 1)))), (0, .ref q), (2, .int (nI z)), (3, .int v)] := lv_re hl (by rw [show (nI (cntNe f v a x) : Int32) = nI (cntNe f v a (x + 1)) from congrArg nI ((cntNe_eq f v a x ce).symm)])
          have hw : xW g A0 s0 [(q, .inl (g.2.1, 200, .inl (filF f v a (x + 1))))] _ _ := hw
          exact ih (x + 1) (by omega) (by omega) (by omega) _ _ _ hw hl
        · refine lv_iinc (v := nI (cntNe f v a x + 1)) (lv' := [(4, .int (nI (cntNe f v a x + 1))), (5, .int (nI x)), (0, .ref q), (2, .int (nI z)), (3, .int v)]) hx hb dX5_filled_20 hl (k := 1) rfl (nI_1 _) (by decide) rfl (fun ls hl => ?_)
          refine lv_aload_n hx hb dX5_filled_23 rfl (lv_at hl 2 rfl) ?_
          refine lv_iload hx hb dX5_filled_24 (lv_at hl 1 rfl) ?_
          refine lv_iload_n hx hb dX5_filled_26 rfl (lv_at hl 4 rfl) ?_
          refine x_ist E hw 0 rfl x rfl (by omega) (by decide) (ws' := [(q, .inl (g.2.1, 200, .inl (upd (filF f v a x) x v)))]) rfl dX5_filled_27 (fun H locs hw => ?_)
          refine lv_iinc (v := nI (x + 1)) (lv' := [(5, .int (nI (x + 1))), (4, .int (nI (cntNe f v a x + 1))), (0, .ref q), (2, .int (nI z)), (3, .int v)]) hx hb dX5_filled_28 hl (k := 1) rfl (nI_1 _) (by decide) rfl (fun ls hl => ?_)
          refine lv_goto (tgt := 6) hx hb dX5_filled_31 (by decide) ?_
          have hw := hw.arr (f' := (filF f v a (x + 1))) (ws' := [(q, .inl (g.2.1, 200, .inl (filF f v a (x + 1))))]) 0 rfl (fun j _ => filF_st f v a x h1 j) rfl
          have hl : lv_has ls 6 [(5, .int (nI (x + 1))), (4, .int (nI (cntNe f v a x + 1))), (0, .ref q), (2, .int (nI z)), (3, .int v)] := lv_sub hl [0, 1, 2, 3, 4] rfl
          have hl : lv_has ls 6 [(5, .int (nI (x + 1))), (4, .int (nI (cntNe f v a (x + 1)))), (0, .ref q), (2, .int (nI z)), (3, .int v)] := lv_re hl (by rw [show (nI (cntNe f v a x + 1) : Int32) = nI (cntNe f v a (x + 1)) from congrArg nI ((cntNe_ne f v a x h1 ce).symm)])
          have hw : xW g A0 s0 [(q, .inl (g.2.1, 200, .inl (filF f v a (x + 1))))] _ _ := hw
          exact ih (x + 1) (by omega) (by omega) (by omega) _ _ _ hw hl
  have hw := hw.arr (f' := (filF f v a a)) (ws' := [(q, .inl (g.2.1, 200, .inl (filF f v a a)))]) 0 rfl (fun j _ => (filF_nil f v a j).symm) rfl
  have hl : lv_has ls 6 [(5, .int (nI a)), (4, .int 0), (0, .ref q), (2, .int (nI z)), (3, .int v)] := lv_sub hl [0, 1, 2, 4, 5] rfl
  have hl : lv_has ls 6 [(5, .int (nI a)), (4, .int (nI (cntNe f v a a))), (0, .ref q), (2, .int (nI z)), (3, .int v)] := lv_re hl (by rw [show (0 : Int32) = nI (cntNe f v a a) from congrArg nI ((cntNe_nil f v a).symm)])
  have hw : xW g A0 s0 [(q, .inl (g.2.1, 200, .inl (filF f v a a)))] _ _ := hw
  exact lp_6 ((z + 1 - a) + 1) a (Nat.lt_succ_self _) (by omega) (by omega) _ _ _ hw hl
end
section

/-- the root, bit by bit from the top -/
def rtL : Nat → Nat → Int32 → Nat
  | 0, f, _ => f
  | j + 1, f, q => rtL j (if nI ((f + 2 ^ j) * (f + 2 ^ j)) ≤ q then f + 2 ^ j else f) q
theorem rtL_no {j f : Nat} {q : Int32} (h : q < nI ((f + 2 ^ j) * (f + 2 ^ j))) : rtL (j + 1) f q = rtL j f q := by rw [rtL, if_neg (Int32.not_le.mpr h)]
theorem rtL_yes {j f : Nat} {q : Int32} (h : ¬ q < nI ((f + 2 ^ j) * (f + 2 ^ j))) : rtL (j + 1) f q = rtL j (f + 2 ^ j) q := by rw [rtL, if_pos (Int32.not_lt.mp h)]
theorem pw_lt {j : Nat} (h : j ≤ 15) : 2 ^ j / 2 < 2 ^ 31 := by
  have h1 : 2 ^ j ≤ 2 ^ 15 := Nat.pow_le_pow_right (by decide) h
  omega
theorem pw_0 {j : Nat} (h : 2 ^ j / 2 = 0) : j = 0 := by
  cases j with
  | zero => rfl
  | succ k =>
    rw [Nat.pow_succ, Nat.mul_div_cancel _ (by decide)] at h
    exact absurd h (Nat.ne_of_gt (Nat.pow_pos (by decide)))
theorem pw_s {j : Nat} (h : 0 < 2 ^ j / 2) : ∃ k, j = k + 1 := by
  cases j with
  | zero => exact absurd h (by decide)
  | succ k => exact ⟨k, rfl⟩
theorem pw_h (k : Nat) : 2 ^ (k + 1) / 2 = 2 ^ k := by rw [Nat.pow_succ, Nat.mul_div_cancel _ (by decide)]
theorem pw_shr {k : Nat} (h : k + 1 ≤ 15) : nI (2 ^ k) >>> ((1 : Int32) &&& 31) = nI (2 ^ k / 2) := by
  have h1 : 2 ^ k ≤ 2 ^ 15 := Nat.pow_le_pow_right (by decide) (by omega)
  exact pk_shrN (n := 2 ^ k) (by omega) ((1 : Int32) &&& 31) 1 (by decide)
theorem filF_end (f : Nat → Int32) (v : Int32) (a x m : Nat) (h : m ≤ x) (h2 : x = a ∨ x ≤ m) (j : Nat) : filF f v a x j = filF f v a m j := by
  rcases h2 with rfl | h2
  · unfold filF
    rw [if_neg (by omega), if_neg (by omega)]
  · rw [show x = m by omega]
/-- how far it is to stand -/
def stL (gr : Nat → Int32) (b : Int32) : Nat → Nat → Nat → Int32 → Int32
  | 0, _, _, _ => -1
  | d + 1, y, x, q => if q - dcl b (gr y) ≤ 0 then nI (y - x) else stL gr b d (y + 1) x (q - dcl b (gr y))
theorem stL_at {gr : Nat → Int32} {b q : Int32} {L y x : Nat} (h : y < L) (hc : ¬ 0 < q - dcl b (gr y)) : stL gr b (L - y) y x q = nI (y - x) := by
  rw [show L - y = (L - (y + 1)) + 1 by omega, stL, if_pos (Int32.not_lt.mp hc)]
theorem stL_go {gr : Nat → Int32} {b q : Int32} {L y x : Nat} (h : y < L) (hc : 0 < q - dcl b (gr y)) : stL gr b (L - y) y x q = stL gr b (L - (y + 1)) (y + 1) x (q - dcl b (gr y)) := by
  rw [show L - y = (L - (y + 1)) + 1 by omega, stL, if_neg (Int32.not_le.mpr hc)]
/-- all DECELS of k cells from x on -/
def smD (gr : Nat → Int32) (b : Int32) (x : Nat) : Nat → Int32
  | 0 => 0
  | k + 1 => smD gr b x k + dcl b (gr (x + k))
/-- where the least of a row's part is, the last one of several -/
def lmi (ce : Nat → Int32) (a : Nat) : Nat → Nat
  | 0 => a
  | d + 1 => if ce (lmi ce a d) < ce (a + d + 1) then lmi ce a d else a + d + 1
theorem lmi_le (ce : Nat → Int32) (a : Nat) : ∀ d, lmi ce a d ≤ a + d
  | 0 => Nat.le_refl a
  | d + 1 => by
    rw [lmi]
    have := lmi_le ce a d
    split <;> omega
theorem lmi_no {ce : Nat → Int32} {a d : Nat} (h : ce (lmi ce a d) < ce (a + d + 1)) : lmi ce a (d + 1) = lmi ce a d := by rw [lmi, if_pos h]
theorem lmi_yes {ce : Nat → Int32} {a d : Nat} (h : ¬ ce (lmi ce a d) < ce (a + d + 1)) : lmi ce a (d + 1) = a + d + 1 := by rw [lmi, if_neg h]
/-- the least CEILING's cell as the sweep keeps it ahead of cell x; the row of CEILINGS IN FORCE -/
def dcI (ce : Nat → Int32) (len : Nat) : Nat → Nat
  | 0 => 0
  | x + 1 => if dcI ce len x < x + 1 - len then lmi ce (x + 1 - len) (x - (x + 1 - len)) else if ce (dcI ce len x) < ce x then dcI ce len x else x
def dcF (ce : Nat → Int32) (len x : Nat) (fo : Nat → Int32) : Nat → Int32 := fun j => if j < x then ce (dcI ce len (j + 1)) else fo j
theorem dcI_a {ce : Nat → Int32} {len x : Nat} (h : dcI ce len x < x + 1 - len) : dcI ce len (x + 1) = lmi ce (x + 1 - len) (x - (x + 1 - len)) := by rw [dcI, if_pos h]
theorem dcI_b {ce : Nat → Int32} {len x : Nat} (h : x + 1 - len ≤ dcI ce len x) (h2 : ce (dcI ce len x) < ce x) : dcI ce len (x + 1) = dcI ce len x := by rw [dcI, if_neg (by omega), if_pos h2]
theorem dcI_c {ce : Nat → Int32} {len x : Nat} (h : x + 1 - len ≤ dcI ce len x) (h2 : ¬ ce (dcI ce len x) < ce x) : dcI ce len (x + 1) = x := by rw [dcI, if_neg (by omega), if_neg h2]
theorem dcI_le {ce : Nat → Int32} {len : Nat} (hl : 1 ≤ len) : ∀ x, dcI ce len x ≤ x
  | 0 => Nat.le_refl 0
  | x + 1 => by
    rw [dcI]
    have h1 := lmi_le ce (x + 1 - len) (x - (x + 1 - len))
    have h2 := dcI_le (ce := ce) hl x
    split
    · omega
    · split <;> omega
theorem dcF_nil (ce : Nat → Int32) (len : Nat) (fo : Nat → Int32) (j : Nat) : dcF ce len 0 fo j = fo j := if_neg (by omega)
theorem dcF_st (ce : Nat → Int32) (len x : Nat) (fo : Nat → Int32) (k : Nat) (hk : dcI ce len (x + 1) = k) (j : Nat) : upd (dcF ce len x fo) x (ce k) j = dcF ce len (x + 1) fo j := by
  unfold upd dcF
  by_cases h : j = x
  · subst h
    rw [if_pos rfl, if_pos (by omega), hk]
  · rw [if_neg h]
    by_cases h2 : j < x
    · rw [if_pos h2, if_pos (by omega)]
    · rw [if_neg h2, if_neg (by omega)]
theorem tailN {x len : Nat} (hx : x < 2 ^ 30) (hl : len < 2 ^ 30) : (if (0 : Int32) < nI x - nI len + 1 then nI x - nI len + 1 else 0) = nI (x + 1 - len) := by
  by_cases h : len ≤ x
  · rw [pk_sub h, nI_1, if_pos, show x + 1 - len = x - len + 1 by omega]
    exact (n_lt (a := 0) (by decide) (by omega)).mpr (by omega)
  · have h0 : ¬ (0 : Int32) < nI x - nI len + 1 := by
      intro h1
      have e : (nI x - nI len).toInt = (x : Int) - len := pk_sub_toInt hx hl
      have e2 : (nI x - nI len + 1).toInt = (x : Int) - len + 1 := by
        rw [Int32.toInt_add, e, show (1 : Int32).toInt = 1 from rfl]
        exact Int.bmod_eq_of_le (by omega) (by omega)
      have h2 := Int32.lt_iff_toInt_lt.mp h1
      rw [e2, show (0 : Int32).toInt = 0 from rfl] at h2
      omega
    rw [if_neg h0, show x + 1 - len = 0 by omega]
    rfl
/-- LAWFUL, by the distance to the end -/
def lwD (fo gr : Nat → Int32) (b : Int32) (L : Nat) : Nat → Int32
  | 0 => 0
  | d + 1 => if lwD fo gr b L d + dcl b (gr (L - 1 - d)) < fo (L - 1 - d) * fo (L - 1 - d) then lwD fo gr b L d + dcl b (gr (L - 1 - d)) else fo (L - 1 - d) * fo (L - 1 - d)
def lwS (fo gr : Nat → Int32) (b : Int32) (L k : Nat) (sq : Nat → Int32) : Nat → Int32 := fun j => if k ≤ j ∧ j < L then lwD fo gr b L (L - j) else sq j
theorem lwD_st (fo gr : Nat → Int32) (b : Int32) (L j : Nat) (h : j < L) : lwD fo gr b L (L - j) = if lwD fo gr b L (L - (j + 1)) + dcl b (gr j) < fo j * fo j then lwD fo gr b L (L - (j + 1)) + dcl b (gr j) else fo j * fo j := by
  rw [show L - j = (L - (j + 1)) + 1 by omega, lwD, show L - 1 - (L - (j + 1)) = j by omega]
theorem lwS_nil (fo gr : Nat → Int32) (b : Int32) (L : Nat) (sq : Nat → Int32) (j : Nat) : lwS fo gr b L L sq j = sq j := if_neg (by omega)
theorem lwS_st (fo gr : Nat → Int32) (b : Int32) (L k : Nat) (sq : Nat → Int32) (h : k < L) (j : Nat) : upd (lwS fo gr b L (k + 1) sq) k (lwD fo gr b L (L - k)) j = lwS fo gr b L k sq j := by
  unfold upd lwS
  by_cases hj : j = k
  · subst hj
    rw [if_pos rfl, if_pos (by omega)]
  · rw [if_neg hj]
    by_cases h2 : k ≤ j ∧ j < L
    · rw [if_pos h2, if_pos (by omega)]
    · rw [if_neg h2, if_neg (by omega)]
/-- BOUND by which cell -/
def bndL (v : Int32) (fo gr : Nat → Int32) (b : Int32) : Nat → Nat → Int32 → Nat
  | 0, y, _ => y
  | d + 1, y, br => if v = fo y * fo y + br then y else bndL v fo gr b d (y + 1) (br + dcl b (gr y))
theorem bndL_at {v : Int32} {fo gr : Nat → Int32} {b br : Int32} {L y : Nat} (h : y < L) (hc : v = fo y * fo y + br) : bndL v fo gr b (L - y) y br = y := by
  rw [show L - y = (L - (y + 1)) + 1 by omega, bndL, if_pos hc]
theorem bndL_go {v : Int32} {fo gr : Nat → Int32} {b br : Int32} {L y : Nat} (h : y < L) (hc : ¬ v = fo y * fo y + br) : bndL v fo gr b (L - y) y br = bndL v fo gr b (L - (y + 1)) (y + 1) (br + dcl b (gr y)) := by
  rw [show L - y = (L - (y + 1)) + 1 by omega, bndL, if_neg hc]
/-- the least of a row's part -/
def lsq (sq : Nat → Int32) (a : Nat) : Nat → Int32
  | 0 => sq a
  | d + 1 => if sq (a + d + 1) < lsq sq a d then sq (a + d + 1) else lsq sq a d

set_option maxRecDepth 100000 in
set_option maxHeartbeats 4000000 in
/-- the greatest number whose square is no more -/
theorem c_X7_root (l : Launch) (g : xCfg) (q : Int32)  : Ct l g yX7_root cX7_root 4 (some .int) (xR 0 0) [.int q] [] (is1 (some (.int (nI (rtL 15 0 q)))) []) := by
  refine Ct.walk (by decide) (Nat.le_of_ble_eq_true rfl) ?_
  intro p0 e0 s0 m0 below meth c0 A0 ls Q hQ E hr hnm hw hl
  have hx := E.x
  have hb := E.b
  have hl : lv_has ls 4 [(0, .int q)] := hl
  refine lv_iconst (v := 0) hx hb dX7_root_0 (by decide) ?_
  refine lv_istore_n (lv' := [(1, .int 0), (0, .int q)]) hx hb dX7_root_1 rfl hl (by decide) rfl (fun ls hl => ?_)
  refine lv_sipush (v := 16384) hx hb dX7_root_2 (by decide) ?_
  refine lv_istore_n (lv' := [(2, .int 16384), (1, .int 0), (0, .int q)]) hx hb dX7_root_5 rfl hl (by decide) rfl (fun ls hl => ?_)
  have lp_6 : ∀ (fuel : Nat) (j : Nat) (f : Nat), j < fuel → j ≤ 15 → rtL j f q = rtL 15 0 q → ∀ (H : Heap) (locs : List Loc) (ls : Array Slot), xW g A0 s0 [] H locs → lv_has ls 4 [(2, .int (nI (2 ^ j / 2))), (1, .int (nI f)), (0, .int q)] → W p0 l e0 (xR 0 0) s0 m0 [.int q].toArray below meth c0 H locs 0 0 Q (F0 m0 6 ls []) := by
    intro fuel
    induction fuel with
    | zero => intro j f hm; exact absurd hm (Nat.not_lt_zero _)
    | succ fuel ih =>
      intro j f hm hj hi H locs ls hw hl
      refine lv_iload_n hx hb dX7_root_6 rfl (lv_at hl 0 rfl) ?_
      refine xz_le (tgt := 30) hx hb (2 ^ j / 2) rfl (pw_lt hj) dX7_root_7 (by decide) (fun c_1 => ?_) (fun c_1 => ?_)
      · obtain rfl := pw_0 c_1
        refine lv_iload_n hx hb dX7_root_30 rfl (lv_at hl 1 rfl) ?_
        exact xr_i hQ E hr hw dX7_root_31 ⟨congrArg (fun z => some (Value.int z)) (congrArg nI hi), rfl⟩
      · obtain ⟨k, rfl⟩ := pw_s c_1
        have hl : lv_has ls 4 [(2, .int (nI (2 ^ k))), (1, .int (nI f)), (0, .int q)] := lv_re hl (by rw [show (nI (2 ^ (k + 1) / 2) : Int32) = nI (2 ^ k) from congrArg nI (pw_h k)])
        refine lv_iload_n hx hb dX7_root_10 rfl (lv_at hl 1 rfl) ?_
        refine lv_iload_n hx hb dX7_root_11 rfl (lv_at hl 0 rfl) ?_
        refine xn_add hx hb f (2 ^ k) rfl rfl dX7_root_12 ?_
        refine lv_istore_n (lv' := [(3, .int (nI (f + (2 ^ k)))), (2, .int (nI (2 ^ k))), (1, .int (nI f)), (0, .int q)]) hx hb dX7_root_13 rfl hl (by decide) rfl (fun ls hl => ?_)
        refine lv_iload_n hx hb dX7_root_14 rfl (lv_at hl 0 rfl) ?_
        refine lv_iload_n hx hb dX7_root_15 rfl (lv_at hl 0 rfl) ?_
        refine xn_mul hx hb (f + (2 ^ k)) (f + (2 ^ k)) rfl rfl dX7_root_16 ?_
        refine lv_iload_n hx hb dX7_root_17 rfl (lv_at hl 3 rfl) ?_
        refine lv_icmp_gt (tgt := 23) hx hb dX7_root_18 (by decide) (fun ce => ?_) (fun ce => ?_)
        · refine lv_iload_n hx hb dX7_root_23 rfl (lv_at hl 1 rfl) ?_
          refine lv_iconst (v := 1) hx hb dX7_root_24 (by decide) ?_
          refine lv_ishr hx hb dX7_root_25 ?_
          refine x_top (v' := .int (nI (2 ^ k / 2))) (congrArg Value.int (pw_shr hj)) ?_
          refine lv_istore_n (lv' := [(2, .int (nI (2 ^ k / 2))), (3, .int (nI (f + (2 ^ k)))), (1, .int (nI f)), (0, .int q)]) hx hb dX7_root_26 rfl hl (by decide) rfl (fun ls hl => ?_)
          refine lv_goto (tgt := 6) hx hb dX7_root_27 (by decide) ?_
          have hl : lv_has ls 4 [(2, .int (nI (2 ^ k / 2))), (1, .int (nI f)), (0, .int q)] := lv_sub hl [0, 2, 3] rfl
          have hl : lv_has ls 4 [(2, .int (nI (2 ^ k / 2))), (1, .int (nI f)), (0, .int q)] := hl
          have hw : xW g A0 s0 [] _ _ := hw
          exact ih k f (by omega) (by omega) ((rtL_no ce).symm.trans hi) _ _ _ hw hl
        · refine lv_iload_n hx hb dX7_root_21 rfl (lv_at hl 0 rfl) ?_
          refine lv_istore_n (lv' := [(1, .int (nI (f + (2 ^ k)))), (3, .int (nI (f + (2 ^ k)))), (2, .int (nI (2 ^ k))), (0, .int q)]) hx hb dX7_root_22 rfl hl (by decide) rfl (fun ls hl => ?_)
          refine lv_iload_n hx hb dX7_root_23 rfl (lv_at hl 2 rfl) ?_
          refine lv_iconst (v := 1) hx hb dX7_root_24 (by decide) ?_
          refine lv_ishr hx hb dX7_root_25 ?_
          refine x_top (v' := .int (nI (2 ^ k / 2))) (congrArg Value.int (pw_shr hj)) ?_
          refine lv_istore_n (lv' := [(2, .int (nI (2 ^ k / 2))), (1, .int (nI (f + (2 ^ k)))), (3, .int (nI (f + (2 ^ k)))), (0, .int q)]) hx hb dX7_root_26 rfl hl (by decide) rfl (fun ls hl => ?_)
          refine lv_goto (tgt := 6) hx hb dX7_root_27 (by decide) ?_
          have hl : lv_has ls 4 [(2, .int (nI (2 ^ k / 2))), (1, .int (nI (f + (2 ^ k)))), (0, .int q)] := lv_sub hl [0, 1, 3] rfl
          have hl : lv_has ls 4 [(2, .int (nI (2 ^ k / 2))), (1, .int (nI (f + (2 ^ k)))), (0, .int q)] := hl
          have hw : xW g A0 s0 [] _ _ := hw
          exact ih k (f + (2 ^ k)) (by omega) (by omega) ((rtL_yes ce).symm.trans hi) _ _ _ hw hl
  have hl : lv_has ls 4 [(2, .int 16384), (1, .int 0), (0, .int q)] := lv_sub hl [0, 1, 2] rfl
  have hl : lv_has ls 4 [(2, .int (nI (2 ^ 15 / 2))), (1, .int 0), (0, .int q)] := lv_re hl (by rw [show (16384 : Int32) = nI (2 ^ 15 / 2) from congrArg nI (by decide)])
  have hw : xW g A0 s0 [] _ _ := hw
  exact lp_6 (15 + 1) 15 0 (Nat.lt_succ_self _) (by omega) rfl _ _ _ hw hl

set_option maxRecDepth 100000 in
set_option maxHeartbeats 4000000 in
theorem c_X5_resized_ok (l : Launch) (g : xCfg) (h : Nat → Nat) (L : Nat) (ce : Nat → Int32) (gr : Nat → Int32) (be : Nat → Int32) (m : Nat) (hL : L ≤ 200) (hm : 5 ≤ m) (hm2 : m ≤ 200) : Ct l g yX5_resized cX5_resized 4 (some .int) (xR 1 22) [.ref (h 2), .int (nI m)] [(h 2, .inr (5, [.int (nI L), .ref (h 3), .ref (h 4), .ref (h 5), .ref (h 6)])), (h 3, .inl (g.2.1, 200, .inl ce)), (h 4, .inl (g.2.1, 200, .inl gr)), (h 5, .inl (g.2.1, 200, .inl be))] (is1 (some (.int (nI L))) [(h 2, .inr (5, [.int (nI m), .ref (h 3), .ref (h 4), .ref (h 5), .ref (h 6)])), (h 3, .inl (g.2.1, 200, .inl (filF ce 40 L m))), (h 4, .inl (g.2.1, 200, .inl (filF gr 0 L m))), (h 5, .inl (g.2.1, 200, .inl (filF be 0 L m)))]) := by
  refine Ct.walk (by decide) (Nat.le_of_ble_eq_true rfl) ?_
  intro p0 e0 s0 m0 below meth c0 A0 ls Q hQ E hr hnm hw hl
  have hx := E.x
  have hb := E.b
  have hl : lv_has ls 4 [(0, .ref (h 2)), (1, .int (nI m))] := hl
  refine lv_iload_n hx hb dX5_resized_0 rfl (lv_at hl 1 rfl) ?_
  refine lv_iconst (v := 5) hx hb dX5_resized_1 (by decide) ?_
  refine lv_sipush (v := 200) hx hb dX5_resized_2 (by decide) ?_
  refine x_go (ws' := [(h 2, .inr (5, [.int (nI L), .ref (h 3), .ref (h 4), .ref (h 5), .ref (h 6)])), (h 3, .inl (g.2.1, 200, .inl ce)), (h 4, .inl (g.2.1, 200, .inl gr)), (h 5, .inl (g.2.1, 200, .inl be))]) (st1 := [.int 1]) E hw [] rfl (x_runSN (rest := []) E hw (c_X7_within_ok l g (nI m) 5 200 (nI_le (a := 5) hm (by omega)) (nI_le (b := 200) hm2 (by decide))) km_X5_37 ks_X7_within [] rfl (by decide) hl.1 rfl rfl (Nat.le_of_ble_eq_true rfl) ⟨Nat.le_of_ble_eq_true rfl, Nat.le_of_ble_eq_true rfl⟩ ⟨Nat.zero_le _, Nat.zero_le _⟩ dX5_resized_5) rfl rfl rfl (fun H locs hw => ?_)
  refine lv_if_ne (tgt := 14) hx hb dX5_resized_8 (by decide) (fun _ => ?_) (fun h => absurd h (by decide))
  refine lv_aload_n hx hb dX5_resized_14 rfl (lv_at hl 0 rfl) ?_
  refine x_get E hw kf_X5_27 0 rfl rfl dX5_resized_15 ?_
  refine lv_istore_n (lv' := [(2, .int (nI L)), (0, .ref (h 2)), (1, .int (nI m))]) hx hb dX5_resized_18 rfl hl (by decide) rfl (fun ls hl => ?_)
  refine lv_iload_n hx hb dX5_resized_19 rfl (lv_at hl 0 rfl) ?_
  refine lv_istore_n (lv' := [(3, .int (nI L)), (2, .int (nI L)), (0, .ref (h 2)), (1, .int (nI m))]) hx hb dX5_resized_20 rfl hl (by decide) rfl (fun ls hl => ?_)
  have lp_21 : ∀ (fuel : Nat) (x : Nat), m - x < fuel → L ≤ x → x = L ∨ x ≤ m → ∀ (H : Heap) (locs : List Loc) (ls : Array Slot), xW g A0 s0 [(h 2, .inr (5, [.int (nI L), .ref (h 3), .ref (h 4), .ref (h 5), .ref (h 6)])), (h 3, .inl (g.2.1, 200, .inl (filF ce 40 L x))), (h 4, .inl (g.2.1, 200, .inl (filF gr 0 L x))), (h 5, .inl (g.2.1, 200, .inl (filF be 0 L x)))] H locs → lv_has ls 4 [(3, .int (nI x)), (2, .int (nI L)), (0, .ref (h 2)), (1, .int (nI m))] → W p0 l e0 (xR 1 22) s0 m0 [.ref (h 2), .int (nI m)].toArray below meth c0 H locs 0 0 Q (F0 m0 21 ls []) := by
    intro fuel
    induction fuel with
    | zero => intro x hm; exact absurd hm (Nat.not_lt_zero _)
    | succ fuel ih =>
      intro x hm h1 h2 H locs ls hw hl
      refine lv_iload_n hx hb dX5_resized_21 rfl (lv_at hl 0 rfl) ?_
      refine lv_iload_n hx hb dX5_resized_22 rfl (lv_at hl 3 rfl) ?_
      refine xn_ge (tgt := 54) hx hb x m rfl rfl (by omega) (by omega) dX5_resized_23 (by decide) (fun c_1 => ?_) (fun c_1 => ?_)
      · refine lv_aload_n hx hb dX5_resized_54 rfl (lv_at hl 2 rfl) ?_
        refine lv_iload_n hx hb dX5_resized_55 rfl (lv_at hl 3 rfl) ?_
        refine x_put E hw kf_X5_27 kp_X5_0 0 rfl (ty := .int) (by decide +kernel) rfl rfl (by simp) (ws' := [(h 2, .inr (5, [.int (nI m), .ref (h 3), .ref (h 4), .ref (h 5), .ref (h 6)])), (h 3, .inl (g.2.1, 200, .inl (filF ce 40 L x))), (h 4, .inl (g.2.1, 200, .inl (filF gr 0 L x))), (h 5, .inl (g.2.1, 200, .inl (filF be 0 L x)))]) rfl dX5_resized_56 (fun H locs hw => ?_)
        refine lv_iload_n hx hb dX5_resized_59 rfl (lv_at hl 1 rfl) ?_
        have hw := hw.arr (f' := (filF ce 40 L m)) (ws' := [(h 2, .inr (5, [.int (nI m), .ref (h 3), .ref (h 4), .ref (h 5), .ref (h 6)])), (h 3, .inl (g.2.1, 200, .inl (filF ce 40 L m))), (h 4, .inl (g.2.1, 200, .inl (filF gr 0 L x))), (h 5, .inl (g.2.1, 200, .inl (filF be 0 L x)))]) 1 rfl (fun j _ => filF_end ce 40 L x m c_1 h2 j) rfl
        have hw := hw.arr (f' := (filF gr 0 L m)) (ws' := [(h 2, .inr (5, [.int (nI m), .ref (h 3), .ref (h 4), .ref (h 5), .ref (h 6)])), (h 3, .inl (g.2.1, 200, .inl (filF ce 40 L m))), (h 4, .inl (g.2.1, 200, .inl (filF gr 0 L m))), (h 5, .inl (g.2.1, 200, .inl (filF be 0 L x)))]) 2 rfl (fun j _ => filF_end gr 0 L x m c_1 h2 j) rfl
        have hw := hw.arr (f' := (filF be 0 L m)) (ws' := [(h 2, .inr (5, [.int (nI m), .ref (h 3), .ref (h 4), .ref (h 5), .ref (h 6)])), (h 3, .inl (g.2.1, 200, .inl (filF ce 40 L m))), (h 4, .inl (g.2.1, 200, .inl (filF gr 0 L m))), (h 5, .inl (g.2.1, 200, .inl (filF be 0 L m)))]) 3 rfl (fun j _ => filF_end be 0 L x m c_1 h2 j) rfl
        exact xr_i hQ E hr hw dX5_resized_60 ⟨rfl, rfl⟩
      · refine lv_aload_n hx hb dX5_resized_26 rfl (lv_at hl 2 rfl) ?_
        refine x_get E hw kf_X5_11 0 rfl rfl dX5_resized_27 ?_
        refine lv_iload_n hx hb dX5_resized_30 rfl (lv_at hl 0 rfl) ?_
        refine lv_bipush (v := 40) hx hb dX5_resized_31 (by decide) ?_
        refine x_ist E hw 1 rfl x rfl (by omega) (by decide) (ws' := [(h 2, .inr (5, [.int (nI L), .ref (h 3), .ref (h 4), .ref (h 5), .ref (h 6)])), (h 3, .inl (g.2.1, 200, .inl (upd (filF ce 40 L x) x 40))), (h 4, .inl (g.2.1, 200, .inl (filF gr 0 L x))), (h 5, .inl (g.2.1, 200, .inl (filF be 0 L x)))]) rfl dX5_resized_33 (fun H locs hw => ?_)
        refine lv_aload_n hx hb dX5_resized_34 rfl (lv_at hl 2 rfl) ?_
        refine x_get E hw kf_X5_15 0 rfl rfl dX5_resized_35 ?_
        refine lv_iload_n hx hb dX5_resized_38 rfl (lv_at hl 0 rfl) ?_
        refine lv_iconst (v := 0) hx hb dX5_resized_39 (by decide) ?_
        refine x_ist E hw 2 rfl x rfl (by omega) (by decide) (ws' := [(h 2, .inr (5, [.int (nI L), .ref (h 3), .ref (h 4), .ref (h 5), .ref (h 6)])), (h 3, .inl (g.2.1, 200, .inl (upd (filF ce 40 L x) x 40))), (h 4, .inl (g.2.1, 200, .inl (upd (filF gr 0 L x) x 0))), (h 5, .inl (g.2.1, 200, .inl (filF be 0 L x)))]) rfl dX5_resized_40 (fun H locs hw => ?_)
        refine lv_aload_n hx hb dX5_resized_41 rfl (lv_at hl 2 rfl) ?_
        refine x_get E hw kf_X5_18 0 rfl rfl dX5_resized_42 ?_
        refine lv_iload_n hx hb dX5_resized_45 rfl (lv_at hl 0 rfl) ?_
        refine lv_iconst (v := 0) hx hb dX5_resized_46 (by decide) ?_
        refine x_ist E hw 3 rfl x rfl (by omega) (by decide) (ws' := [(h 2, .inr (5, [.int (nI L), .ref (h 3), .ref (h 4), .ref (h 5), .ref (h 6)])), (h 3, .inl (g.2.1, 200, .inl (upd (filF ce 40 L x) x 40))), (h 4, .inl (g.2.1, 200, .inl (upd (filF gr 0 L x) x 0))), (h 5, .inl (g.2.1, 200, .inl (upd (filF be 0 L x) x 0)))]) rfl dX5_resized_47 (fun H locs hw => ?_)
        refine lv_iinc (v := nI (x + 1)) (lv' := [(3, .int (nI (x + 1))), (2, .int (nI L)), (0, .ref (h 2)), (1, .int (nI m))]) hx hb dX5_resized_48 hl (k := 0) rfl (nI_1 _) (by decide) rfl (fun ls hl => ?_)
        refine lv_goto (tgt := 21) hx hb dX5_resized_51 (by decide) ?_
        have hw := hw.arr (f' := (filF ce 40 L (x + 1))) (ws' := [(h 2, .inr (5, [.int (nI L), .ref (h 3), .ref (h 4), .ref (h 5), .ref (h 6)])), (h 3, .inl (g.2.1, 200, .inl (filF ce 40 L (x + 1)))), (h 4, .inl (g.2.1, 200, .inl (upd (filF gr 0 L x) x 0))), (h 5, .inl (g.2.1, 200, .inl (upd (filF be 0 L x) x 0)))]) 1 rfl (fun j _ => filF_st ce 40 L x h1 j) rfl
        have hw := hw.arr (f' := (filF gr 0 L (x + 1))) (ws' := [(h 2, .inr (5, [.int (nI L), .ref (h 3), .ref (h 4), .ref (h 5), .ref (h 6)])), (h 3, .inl (g.2.1, 200, .inl (filF ce 40 L (x + 1)))), (h 4, .inl (g.2.1, 200, .inl (filF gr 0 L (x + 1)))), (h 5, .inl (g.2.1, 200, .inl (upd (filF be 0 L x) x 0)))]) 2 rfl (fun j _ => filF_st gr 0 L x h1 j) rfl
        have hw := hw.arr (f' := (filF be 0 L (x + 1))) (ws' := [(h 2, .inr (5, [.int (nI L), .ref (h 3), .ref (h 4), .ref (h 5), .ref (h 6)])), (h 3, .inl (g.2.1, 200, .inl (filF ce 40 L (x + 1)))), (h 4, .inl (g.2.1, 200, .inl (filF gr 0 L (x + 1)))), (h 5, .inl (g.2.1, 200, .inl (filF be 0 L (x + 1))))]) 3 rfl (fun j _ => filF_st be 0 L x h1 j) rfl
        have hl : lv_has ls 4 [(3, .int (nI (x + 1))), (2, .int (nI L)), (0, .ref (h 2)), (1, .int (nI m))] := lv_sub hl [0, 1, 2, 3] rfl
        have hl : lv_has ls 4 [(3, .int (nI (x + 1))), (2, .int (nI L)), (0, .ref (h 2)), (1, .int (nI m))] := hl
        have hw : xW g A0 s0 [(h 2, .inr (5, [.int (nI L), .ref (h 3), .ref (h 4), .ref (h 5), .ref (h 6)])), (h 3, .inl (g.2.1, 200, .inl (filF ce 40 L (x + 1)))), (h 4, .inl (g.2.1, 200, .inl (filF gr 0 L (x + 1)))), (h 5, .inl (g.2.1, 200, .inl (filF be 0 L (x + 1))))] _ _ := hw
        exact ih (x + 1) (by omega) (by omega) (by omega) _ _ _ hw hl
  have hw := hw.arr (f' := (filF ce 40 L L)) (ws' := [(h 2, .inr (5, [.int (nI L), .ref (h 3), .ref (h 4), .ref (h 5), .ref (h 6)])), (h 3, .inl (g.2.1, 200, .inl (filF ce 40 L L))), (h 4, .inl (g.2.1, 200, .inl gr)), (h 5, .inl (g.2.1, 200, .inl be))]) 1 rfl (fun j _ => (filF_nil ce 40 L j).symm) rfl
  have hw := hw.arr (f' := (filF gr 0 L L)) (ws' := [(h 2, .inr (5, [.int (nI L), .ref (h 3), .ref (h 4), .ref (h 5), .ref (h 6)])), (h 3, .inl (g.2.1, 200, .inl (filF ce 40 L L))), (h 4, .inl (g.2.1, 200, .inl (filF gr 0 L L))), (h 5, .inl (g.2.1, 200, .inl be))]) 2 rfl (fun j _ => (filF_nil gr 0 L j).symm) rfl
  have hw := hw.arr (f' := (filF be 0 L L)) (ws' := [(h 2, .inr (5, [.int (nI L), .ref (h 3), .ref (h 4), .ref (h 5), .ref (h 6)])), (h 3, .inl (g.2.1, 200, .inl (filF ce 40 L L))), (h 4, .inl (g.2.1, 200, .inl (filF gr 0 L L))), (h 5, .inl (g.2.1, 200, .inl (filF be 0 L L)))]) 3 rfl (fun j _ => (filF_nil be 0 L j).symm) rfl
  have hl : lv_has ls 4 [(3, .int (nI L)), (2, .int (nI L)), (0, .ref (h 2)), (1, .int (nI m))] := lv_sub hl [0, 1, 2, 3] rfl
  have hl : lv_has ls 4 [(3, .int (nI L)), (2, .int (nI L)), (0, .ref (h 2)), (1, .int (nI m))] := hl
  have hw : xW g A0 s0 [(h 2, .inr (5, [.int (nI L), .ref (h 3), .ref (h 4), .ref (h 5), .ref (h 6)])), (h 3, .inl (g.2.1, 200, .inl (filF ce 40 L L))), (h 4, .inl (g.2.1, 200, .inl (filF gr 0 L L))), (h 5, .inl (g.2.1, 200, .inl (filF be 0 L L)))] _ _ := hw
  exact lp_21 ((m - L) + 1) L (Nat.lt_succ_self _) (by omega) (by omega) _ _ _ hw hl

set_option maxRecDepth 100000 in
set_option maxHeartbeats 4000000 in
theorem c_X5_relaid_c (l : Launch) (g : xCfg) (h : Nat → Nat) (L : Nat) (ce : Nat → Int32) (a : Nat) (z : Nat) (v : Int32) (hL : L ≤ 200) (hz : z < L) (ha : a ≤ z) (hv : (0 : Int32) ≤ v) (hv2 : v ≤ 60) : Ct l g yX5_relaid cX5_relaid 5 (some .int) (xR 2 43) [.ref (h 2), .int 0, .int (nI a), .int (nI z), .int v] [(h 2, .inr (5, [.int (nI L), .ref (h 3), .ref (h 4), .ref (h 5), .ref (h 6)])), (h 3, .inl (g.2.1, 200, .inl ce))] (is1 (some (.int (nI (cntNe ce v a (z + 1))))) [(h 2, .inr (5, [.int (nI L), .ref (h 3), .ref (h 4), .ref (h 5), .ref (h 6)])), (h 3, .inl (g.2.1, 200, .inl (filF ce v a (z + 1))))]) := by
  refine Ct.walk (by decide) (Nat.le_of_ble_eq_true rfl) ?_
  intro p0 e0 s0 m0 below meth c0 A0 ls Q hQ E hr hnm hw hl
  have hx := E.x
  have hb := E.b
  have hl : lv_has ls 5 [(0, .ref (h 2)), (1, .int 0), (2, .int (nI a)), (3, .int (nI z)), (4, .int v)] := hl
  refine lv_aload_n hx hb dX5_relaid_0 rfl (lv_at hl 0 rfl) ?_
  refine lv_iload_n hx hb dX5_relaid_1 rfl (lv_at hl 2 rfl) ?_
  refine x_go (ws' := [(h 2, .inr (5, [.int (nI L), .ref (h 3), .ref (h 4), .ref (h 5), .ref (h 6)])), (h 3, .inl (g.2.1, 200, .inl ce))]) (st1 := [.int 1]) E hw [0] rfl (x_runV (rest := []) E hw (c_X5_has_ok l g h L a (by omega) (by omega)) km_X5_47 kv_X5_has [0] rfl (by decide) 0 rfl hl.1 rfl rfl (Nat.le_of_ble_eq_true rfl) ⟨Nat.le_of_ble_eq_true rfl, Nat.le_of_ble_eq_true rfl⟩ ⟨Nat.zero_le _, Nat.zero_le _⟩ dX5_relaid_2) rfl rfl rfl (fun H locs hw => ?_)
  refine lv_if_eq (tgt := 21) hx hb dX5_relaid_5 (by decide) (fun h => absurd h (by decide)) (fun _ => ?_)
  refine lv_aload_n hx hb dX5_relaid_8 rfl (lv_at hl 0 rfl) ?_
  refine lv_iload_n hx hb dX5_relaid_9 rfl (lv_at hl 3 rfl) ?_
  refine x_go (ws' := [(h 2, .inr (5, [.int (nI L), .ref (h 3), .ref (h 4), .ref (h 5), .ref (h 6)])), (h 3, .inl (g.2.1, 200, .inl ce))]) (st1 := [.int 1]) E hw [0] rfl (x_runV (rest := []) E hw (c_X5_has_ok l g h L z (by omega) (by omega)) km_X5_47 kv_X5_has [0] rfl (by decide) 0 rfl hl.1 rfl rfl (Nat.le_of_ble_eq_true rfl) ⟨Nat.le_of_ble_eq_true rfl, Nat.le_of_ble_eq_true rfl⟩ ⟨Nat.zero_le _, Nat.zero_le _⟩ dX5_relaid_10) rfl rfl rfl (fun H locs hw => ?_)
  refine lv_if_eq (tgt := 21) hx hb dX5_relaid_13 (by decide) (fun h => absurd h (by decide)) (fun _ => ?_)
  refine lv_iload_n hx hb dX5_relaid_16 rfl (lv_at hl 2 rfl) ?_
  refine lv_iload_n hx hb dX5_relaid_17 rfl (lv_at hl 3 rfl) ?_
  refine xn_le (tgt := 24) hx hb a z rfl rfl (by omega) (by omega) dX5_relaid_18 (by decide) (fun c_3 => ?_) (fun c_3 => ?_)
  · refine lv_iload_n hx hb dX5_relaid_24 rfl (lv_at hl 1 rfl) ?_
    refine lv_if_ne (tgt := 51) hx hb dX5_relaid_25 (by decide) (fun h => absurd h (by decide)) (fun _ => ?_)
    refine lv_iload hx hb dX5_relaid_28 (lv_at hl 4 rfl) ?_
    refine lv_iconst (v := 0) hx hb dX5_relaid_30 (by decide) ?_
    refine lv_bipush (v := 60) hx hb dX5_relaid_31 (by decide) ?_
    refine x_go (ws' := [(h 2, .inr (5, [.int (nI L), .ref (h 3), .ref (h 4), .ref (h 5), .ref (h 6)])), (h 3, .inl (g.2.1, 200, .inl ce))]) (st1 := [.int 1]) E hw [] rfl (x_runSN (rest := []) E hw (c_X7_within_ok l g v 0 60 hv hv2) km_X5_37 ks_X7_within [] rfl (by decide) hl.1 rfl rfl (Nat.le_of_ble_eq_true rfl) ⟨Nat.le_of_ble_eq_true rfl, Nat.le_of_ble_eq_true rfl⟩ ⟨Nat.zero_le _, Nat.zero_le _⟩ dX5_relaid_33) rfl rfl rfl (fun H locs hw => ?_)
    refine lv_if_eq (tgt := 51) hx hb dX5_relaid_36 (by decide) (fun h => absurd h (by decide)) (fun _ => ?_)
    refine lv_aload_n hx hb dX5_relaid_39 rfl (lv_at hl 0 rfl) ?_
    refine x_get E hw kf_X5_11 0 rfl rfl dX5_relaid_40 ?_
    refine lv_iload_n hx hb dX5_relaid_43 rfl (lv_at hl 2 rfl) ?_
    refine lv_iload_n hx hb dX5_relaid_44 rfl (lv_at hl 3 rfl) ?_
    refine lv_iload hx hb dX5_relaid_45 (lv_at hl 4 rfl) ?_
    refine x_go (ws' := [(h 2, .inr (5, [.int (nI L), .ref (h 3), .ref (h 4), .ref (h 5), .ref (h 6)])), (h 3, .inl (g.2.1, 200, .inl (filF ce v a (z + 1))))]) (st1 := [.int (nI (cntNe ce v a (z + 1)))]) E hw [1] rfl (x_runS (rest := []) E hw (c_X5_filled l g (h 3) ce a z v (by omega) (by omega)) km_X5_51 ks_X5_filled [1] rfl (by decide) hl.1 rfl rfl (Nat.le_of_ble_eq_true rfl) ⟨Nat.le_of_ble_eq_true rfl, Nat.le_of_ble_eq_true rfl⟩ ⟨Nat.zero_le _, Nat.zero_le _⟩ dX5_relaid_47) rfl rfl rfl (fun H locs hw => ?_)
    exact xr_i hQ E hr hw dX5_relaid_50 ⟨rfl, rfl⟩
  · exact absurd c_3 (by omega)

set_option maxRecDepth 100000 in
set_option maxHeartbeats 4000000 in
theorem c_X5_relaid_g (l : Launch) (g : xCfg) (h : Nat → Nat) (L : Nat) (gr : Nat → Int32) (a : Nat) (z : Nat) (v : Int32) (hL : L ≤ 200) (hz : z < L) (ha : a ≤ z) (hv : (-20 : Int32) ≤ v) (hv2 : v ≤ 20) : Ct l g yX5_relaid cX5_relaid 5 (some .int) (xR 2 43) [.ref (h 2), .int 1, .int (nI a), .int (nI z), .int v] [(h 2, .inr (5, [.int (nI L), .ref (h 3), .ref (h 4), .ref (h 5), .ref (h 6)])), (h 4, .inl (g.2.1, 200, .inl gr))] (is1 (some (.int (nI (cntNe gr v a (z + 1))))) [(h 2, .inr (5, [.int (nI L), .ref (h 3), .ref (h 4), .ref (h 5), .ref (h 6)])), (h 4, .inl (g.2.1, 200, .inl (filF gr v a (z + 1))))]) := by
  refine Ct.walk (by decide) (Nat.le_of_ble_eq_true rfl) ?_
  intro p0 e0 s0 m0 below meth c0 A0 ls Q hQ E hr hnm hw hl
  have hx := E.x
  have hb := E.b
  have hl : lv_has ls 5 [(0, .ref (h 2)), (1, .int 1), (2, .int (nI a)), (3, .int (nI z)), (4, .int v)] := hl
  refine lv_aload_n hx hb dX5_relaid_0 rfl (lv_at hl 0 rfl) ?_
  refine lv_iload_n hx hb dX5_relaid_1 rfl (lv_at hl 2 rfl) ?_
  refine x_go (ws' := [(h 2, .inr (5, [.int (nI L), .ref (h 3), .ref (h 4), .ref (h 5), .ref (h 6)])), (h 4, .inl (g.2.1, 200, .inl gr))]) (st1 := [.int 1]) E hw [0] rfl (x_runV (rest := []) E hw (c_X5_has_ok l g h L a (by omega) (by omega)) km_X5_47 kv_X5_has [0] rfl (by decide) 0 rfl hl.1 rfl rfl (Nat.le_of_ble_eq_true rfl) ⟨Nat.le_of_ble_eq_true rfl, Nat.le_of_ble_eq_true rfl⟩ ⟨Nat.zero_le _, Nat.zero_le _⟩ dX5_relaid_2) rfl rfl rfl (fun H locs hw => ?_)
  refine lv_if_eq (tgt := 21) hx hb dX5_relaid_5 (by decide) (fun h => absurd h (by decide)) (fun _ => ?_)
  refine lv_aload_n hx hb dX5_relaid_8 rfl (lv_at hl 0 rfl) ?_
  refine lv_iload_n hx hb dX5_relaid_9 rfl (lv_at hl 3 rfl) ?_
  refine x_go (ws' := [(h 2, .inr (5, [.int (nI L), .ref (h 3), .ref (h 4), .ref (h 5), .ref (h 6)])), (h 4, .inl (g.2.1, 200, .inl gr))]) (st1 := [.int 1]) E hw [0] rfl (x_runV (rest := []) E hw (c_X5_has_ok l g h L z (by omega) (by omega)) km_X5_47 kv_X5_has [0] rfl (by decide) 0 rfl hl.1 rfl rfl (Nat.le_of_ble_eq_true rfl) ⟨Nat.le_of_ble_eq_true rfl, Nat.le_of_ble_eq_true rfl⟩ ⟨Nat.zero_le _, Nat.zero_le _⟩ dX5_relaid_10) rfl rfl rfl (fun H locs hw => ?_)
  refine lv_if_eq (tgt := 21) hx hb dX5_relaid_13 (by decide) (fun h => absurd h (by decide)) (fun _ => ?_)
  refine lv_iload_n hx hb dX5_relaid_16 rfl (lv_at hl 2 rfl) ?_
  refine lv_iload_n hx hb dX5_relaid_17 rfl (lv_at hl 3 rfl) ?_
  refine xn_le (tgt := 24) hx hb a z rfl rfl (by omega) (by omega) dX5_relaid_18 (by decide) (fun c_3 => ?_) (fun c_3 => ?_)
  · refine lv_iload_n hx hb dX5_relaid_24 rfl (lv_at hl 1 rfl) ?_
    refine lv_if_ne (tgt := 51) hx hb dX5_relaid_25 (by decide) (fun _ => ?_) (fun h => absurd h (by decide))
    refine lv_iload_n hx hb dX5_relaid_51 rfl (lv_at hl 1 rfl) ?_
    refine lv_iconst (v := 1) hx hb dX5_relaid_52 (by decide) ?_
    refine lv_icmp_ne (tgt := 80) hx hb dX5_relaid_53 (by decide) (fun h => absurd h (by decide)) (fun _ => ?_)
    refine lv_iload hx hb dX5_relaid_56 (lv_at hl 4 rfl) ?_
    refine lv_bipush (v := -20) hx hb dX5_relaid_58 (by decide) ?_
    refine lv_bipush (v := 20) hx hb dX5_relaid_60 (by decide) ?_
    refine x_go (ws' := [(h 2, .inr (5, [.int (nI L), .ref (h 3), .ref (h 4), .ref (h 5), .ref (h 6)])), (h 4, .inl (g.2.1, 200, .inl gr))]) (st1 := [.int 1]) E hw [] rfl (x_runSN (rest := []) E hw (c_X7_within_ok l g v (-20) 20 hv hv2) km_X5_37 ks_X7_within [] rfl (by decide) hl.1 rfl rfl (Nat.le_of_ble_eq_true rfl) ⟨Nat.le_of_ble_eq_true rfl, Nat.le_of_ble_eq_true rfl⟩ ⟨Nat.zero_le _, Nat.zero_le _⟩ dX5_relaid_62) rfl rfl rfl (fun H locs hw => ?_)
    refine lv_if_eq (tgt := 80) hx hb dX5_relaid_65 (by decide) (fun h => absurd h (by decide)) (fun _ => ?_)
    refine lv_aload_n hx hb dX5_relaid_68 rfl (lv_at hl 0 rfl) ?_
    refine x_get E hw kf_X5_15 0 rfl rfl dX5_relaid_69 ?_
    refine lv_iload_n hx hb dX5_relaid_72 rfl (lv_at hl 2 rfl) ?_
    refine lv_iload_n hx hb dX5_relaid_73 rfl (lv_at hl 3 rfl) ?_
    refine lv_iload hx hb dX5_relaid_74 (lv_at hl 4 rfl) ?_
    refine x_go (ws' := [(h 2, .inr (5, [.int (nI L), .ref (h 3), .ref (h 4), .ref (h 5), .ref (h 6)])), (h 4, .inl (g.2.1, 200, .inl (filF gr v a (z + 1))))]) (st1 := [.int (nI (cntNe gr v a (z + 1)))]) E hw [1] rfl (x_runS (rest := []) E hw (c_X5_filled l g (h 4) gr a z v (by omega) (by omega)) km_X5_51 ks_X5_filled [1] rfl (by decide) hl.1 rfl rfl (Nat.le_of_ble_eq_true rfl) ⟨Nat.le_of_ble_eq_true rfl, Nat.le_of_ble_eq_true rfl⟩ ⟨Nat.zero_le _, Nat.zero_le _⟩ dX5_relaid_76) rfl rfl rfl (fun H locs hw => ?_)
    exact xr_i hQ E hr hw dX5_relaid_79 ⟨rfl, rfl⟩
  · exact absurd c_3 (by omega)

set_option maxRecDepth 100000 in
set_option maxHeartbeats 4000000 in
theorem c_X5_adjusted_ok (l : Launch) (g : xCfg) (h : Nat → Nat) (L : Nat) (st : Nat → Int32) (w : Nat) (v : Int32) (hw0 : w < 7) (hv : tLeast w ≤ v) (hv2 : v ≤ tMost w) : Ct l g yX5_adjusted cX5_adjusted 4 (some .int) (xR 1 22) [.ref (h 2), .int (nI w), .int v] [(h 2, .inr (5, [.int (nI L), .ref (h 3), .ref (h 4), .ref (h 5), .ref (h 6)])), (h 6, .inl (g.2.1, 7, .inl st))] (is1 (some (.int (st w))) [(h 2, .inr (5, [.int (nI L), .ref (h 3), .ref (h 4), .ref (h 5), .ref (h 6)])), (h 6, .inl (g.2.1, 7, .inl (upd st w v)))]) := by
  refine Ct.walk (by decide) (Nat.le_of_ble_eq_true rfl) ?_
  intro p0 e0 s0 m0 below meth c0 A0 ls Q hQ E hr hnm hw hl
  have hx := E.x
  have hb := E.b
  have hl : lv_has ls 4 [(0, .ref (h 2)), (1, .int (nI w)), (2, .int v)] := hl
  refine lv_iload_n hx hb dX5_adjusted_0 rfl (lv_at hl 1 rfl) ?_
  refine lv_iconst (v := 0) hx hb dX5_adjusted_1 (by decide) ?_
  refine lv_bipush (v := 6) hx hb dX5_adjusted_2 (by decide) ?_
  refine x_go (ws' := [(h 2, .inr (5, [.int (nI L), .ref (h 3), .ref (h 4), .ref (h 5), .ref (h 6)])), (h 6, .inl (g.2.1, 7, .inl st))]) (st1 := [.int 1]) E hw [] rfl (x_runSN (rest := []) E hw (c_X7_within_ok l g (nI w) 0 6 (nI_pos' (by omega)) (nI_le (b := 6) (by omega) (by decide))) km_X5_37 ks_X7_within [] rfl (by decide) hl.1 rfl rfl (Nat.le_of_ble_eq_true rfl) ⟨Nat.le_of_ble_eq_true rfl, Nat.le_of_ble_eq_true rfl⟩ ⟨Nat.zero_le _, Nat.zero_le _⟩ dX5_adjusted_4) rfl rfl rfl (fun H locs hw => ?_)
  refine lv_if_eq (tgt := 27) hx hb dX5_adjusted_7 (by decide) (fun h => absurd h (by decide)) (fun _ => ?_)
  refine lv_iload_n hx hb dX5_adjusted_10 rfl (lv_at hl 2 rfl) ?_
  refine va_gets hx hb E.2.2.2.2.2.2.1.1 hw.2.2 E.ow (E.ts (.fieldLink RX5 55 RX5 "LEAST" "[I") (wB 451 rfl rfl)) (fun _ h => h) dX5_adjusted_11 ?_
  refine lv_iload_n hx hb dX5_adjusted_14 rfl (lv_at hl 1 rfl) ?_
  refine x_tld E hw E.2.2.2.2.2.2.1.2 w rfl (by omega) (by decide) rfl dX5_adjusted_15 ?_
  refine va_gets hx hb E.2.2.2.2.2.2.2.1.1 hw.2.2 E.ow (E.ts (.fieldLink RX5 58 RX5 "MOST" "[I") (wB 453 rfl rfl)) (fun _ h => h) dX5_adjusted_16 ?_
  refine lv_iload_n hx hb dX5_adjusted_19 rfl (lv_at hl 1 rfl) ?_
  refine x_tld E hw E.2.2.2.2.2.2.2.1.2 w rfl (by omega) (by decide) rfl dX5_adjusted_20 ?_
  refine x_go (ws' := [(h 2, .inr (5, [.int (nI L), .ref (h 3), .ref (h 4), .ref (h 5), .ref (h 6)])), (h 6, .inl (g.2.1, 7, .inl st))]) (st1 := [.int 1]) E hw [] rfl (x_runSN (rest := []) E hw (c_X7_within_ok l g v (tLeast w) (tMost w) hv hv2) km_X5_37 ks_X7_within [] rfl (by decide) hl.1 rfl rfl (Nat.le_of_ble_eq_true rfl) ⟨Nat.le_of_ble_eq_true rfl, Nat.le_of_ble_eq_true rfl⟩ ⟨Nat.zero_le _, Nat.zero_le _⟩ dX5_adjusted_21) rfl rfl rfl (fun H locs hw => ?_)
  refine lv_if_ne (tgt := 30) hx hb dX5_adjusted_24 (by decide) (fun _ => ?_) (fun h => absurd h (by decide))
  refine lv_aload_n hx hb dX5_adjusted_30 rfl (lv_at hl 0 rfl) ?_
  refine x_get E hw kf_X5_24 0 rfl rfl dX5_adjusted_31 ?_
  refine lv_iload_n hx hb dX5_adjusted_34 rfl (lv_at hl 1 rfl) ?_
  refine x_ld (v := st w) E hw 1 rfl w rfl (by omega) (by decide) rfl dX5_adjusted_35 ?_
  refine lv_istore_n (lv' := [(3, .int (st w)), (0, .ref (h 2)), (1, .int (nI w)), (2, .int v)]) hx hb dX5_adjusted_36 rfl hl (by decide) rfl (fun ls hl => ?_)
  refine lv_aload_n hx hb dX5_adjusted_37 rfl (lv_at hl 1 rfl) ?_
  refine x_get E hw kf_X5_24 0 rfl rfl dX5_adjusted_38 ?_
  refine lv_iload_n hx hb dX5_adjusted_41 rfl (lv_at hl 2 rfl) ?_
  refine lv_iload_n hx hb dX5_adjusted_42 rfl (lv_at hl 3 rfl) ?_
  refine x_ist E hw 1 rfl w rfl (by omega) (by decide) (ws' := [(h 2, .inr (5, [.int (nI L), .ref (h 3), .ref (h 4), .ref (h 5), .ref (h 6)])), (h 6, .inl (g.2.1, 7, .inl (upd st w v)))]) rfl dX5_adjusted_43 (fun H locs hw => ?_)
  refine lv_iload_n hx hb dX5_adjusted_44 rfl (lv_at hl 0 rfl) ?_
  exact xr_i hQ E hr hw dX5_adjusted_45 ⟨rfl, rfl⟩

set_option maxRecDepth 100000 in
set_option maxHeartbeats 4000000 in
theorem c_X5_cellsToStand (l : Launch) (g : xCfg) (h : Nat → Nat) (L : Nat) (gr : Nat → Int32) (st : Nat → Int32) (x : Nat) (v : Int32) (hL : L ≤ 200) (hx0 : x < L) : Ct l g yX5_cellsToStand cX5_cellsToStand 5 (some .int) (xR 2 34) [.ref (h 2), .int (nI x), .int v] [(h 2, .inr (5, [.int (nI L), .ref (h 3), .ref (h 4), .ref (h 5), .ref (h 6)])), (h 4, .inl (g.2.1, 200, .inl gr)), (h 6, .inl (g.2.1, 7, .inl st))] (is1 (some (.int (stL gr (st 0) (L - x) x x (v * v)))) [(h 2, .inr (5, [.int (nI L), .ref (h 3), .ref (h 4), .ref (h 5), .ref (h 6)])), (h 4, .inl (g.2.1, 200, .inl gr)), (h 6, .inl (g.2.1, 7, .inl st))]) := by
  refine Ct.walk (by decide) (Nat.le_of_ble_eq_true rfl) ?_
  intro p0 e0 s0 m0 below meth c0 A0 ls Q hQ E hr hnm hw hl
  have hx := E.x
  have hb := E.b
  have hl : lv_has ls 5 [(0, .ref (h 2)), (1, .int (nI x)), (2, .int v)] := hl
  refine lv_iload_n hx hb dX5_cellsToStand_0 rfl (lv_at hl 2 rfl) ?_
  refine lv_iload_n hx hb dX5_cellsToStand_1 rfl (lv_at hl 2 rfl) ?_
  refine lv_imul hx hb dX5_cellsToStand_2 ?_
  refine lv_istore_n (lv' := [(3, .int (v * v)), (0, .ref (h 2)), (1, .int (nI x)), (2, .int v)]) hx hb dX5_cellsToStand_3 rfl hl (by decide) rfl (fun ls hl => ?_)
  refine lv_iload_n hx hb dX5_cellsToStand_4 rfl (lv_at hl 2 rfl) ?_
  refine lv_istore (lv' := [(4, .int (nI x)), (3, .int (v * v)), (0, .ref (h 2)), (1, .int (nI x)), (2, .int v)]) hx hb dX5_cellsToStand_5 hl (by decide) rfl (fun ls hl => ?_)
  have lp_7 : ∀ (fuel : Nat) (y : Nat) (q : Int32), L - y < fuel → x ≤ y → y ≤ L → stL gr (st 0) (L - y) y x q = stL gr (st 0) (L - x) x x (v * v) → ∀ (H : Heap) (locs : List Loc) (ls : Array Slot), xW g A0 s0 [(h 2, .inr (5, [.int (nI L), .ref (h 3), .ref (h 4), .ref (h 5), .ref (h 6)])), (h 4, .inl (g.2.1, 200, .inl gr)), (h 6, .inl (g.2.1, 7, .inl st))] H locs → lv_has ls 5 [(4, .int (nI y)), (3, .int q), (0, .ref (h 2)), (1, .int (nI x)), (2, .int v)] → W p0 l e0 (xR 2 34) s0 m0 [.ref (h 2), .int (nI x), .int v].toArray below meth c0 H locs 0 0 Q (F0 m0 7 ls []) := by
    intro fuel
    induction fuel with
    | zero => intro y q hm; exact absurd hm (Nat.not_lt_zero _)
    | succ fuel ih =>
      intro y q hm h1 h2 hi H locs ls hw hl
      refine lv_iload hx hb dX5_cellsToStand_7 (lv_at hl 0 rfl) ?_
      refine lv_aload_n hx hb dX5_cellsToStand_9 rfl (lv_at hl 2 rfl) ?_
      refine x_get E hw kf_X5_27 0 rfl rfl dX5_cellsToStand_10 ?_
      refine xn_ge (tgt := 40) hx hb y L rfl rfl (by omega) (by omega) dX5_cellsToStand_13 (by decide) (fun c_1 => ?_) (fun c_1 => ?_)
      · obtain rfl : y = L := by omega
        refine lv_iconst (v := -1) hx hb dX5_cellsToStand_40 (by decide) ?_
        exact xr_i hQ E hr hw dX5_cellsToStand_41 ⟨congrArg (fun z => some (Value.int z)) (by rw [← hi, Nat.sub_self]; rfl), rfl⟩
      · refine lv_iload_n hx hb dX5_cellsToStand_16 rfl (lv_at hl 1 rfl) ?_
        refine lv_aload_n hx hb dX5_cellsToStand_17 rfl (lv_at hl 2 rfl) ?_
        refine lv_iload hx hb dX5_cellsToStand_18 (lv_at hl 0 rfl) ?_
        refine x_go (ws' := [(h 2, .inr (5, [.int (nI L), .ref (h 3), .ref (h 4), .ref (h 5), .ref (h 6)])), (h 4, .inl (g.2.1, 200, .inl gr)), (h 6, .inl (g.2.1, 7, .inl st))]) (st1 := [.int (dcl (st 0) (gr y)), .int q]) E hw [0, 1, 2] rfl (x_runV (rest := [.int q]) E hw (c_X5_decel l g h L gr st y (by omega)) km_X5_61 kv_X5_decel [0, 1, 2] rfl (by decide) 0 rfl hl.1 rfl rfl (Nat.le_of_ble_eq_true rfl) ⟨Nat.le_of_ble_eq_true rfl, Nat.le_of_ble_eq_true rfl⟩ ⟨Nat.zero_le _, Nat.zero_le _⟩ dX5_cellsToStand_20) rfl rfl rfl (fun H locs hw => ?_)
        refine lv_isub hx hb dX5_cellsToStand_23 ?_
        refine lv_istore_n (lv' := [(3, .int (q - dcl (st 0) (gr y))), (4, .int (nI y)), (0, .ref (h 2)), (1, .int (nI x)), (2, .int v)]) hx hb dX5_cellsToStand_24 rfl hl (by decide) rfl (fun ls hl => ?_)
        refine lv_iload_n hx hb dX5_cellsToStand_25 rfl (lv_at hl 0 rfl) ?_
        refine lv_if_gt (tgt := 34) hx hb dX5_cellsToStand_26 (by decide) (fun ce => ?_) (fun ce => ?_)
        · refine lv_iinc (v := nI (y + 1)) (lv' := [(4, .int (nI (y + 1))), (3, .int (q - dcl (st 0) (gr y))), (0, .ref (h 2)), (1, .int (nI x)), (2, .int v)]) hx hb dX5_cellsToStand_34 hl (k := 1) rfl (nI_1 _) (by decide) rfl (fun ls hl => ?_)
          refine lv_goto (tgt := 7) hx hb dX5_cellsToStand_37 (by decide) ?_
          have hl : lv_has ls 5 [(4, .int (nI (y + 1))), (3, .int (q - dcl (st 0) (gr y))), (0, .ref (h 2)), (1, .int (nI x)), (2, .int v)] := lv_sub hl [0, 1, 2, 3, 4] rfl
          have hl : lv_has ls 5 [(4, .int (nI (y + 1))), (3, .int (q - dcl (st 0) (gr y))), (0, .ref (h 2)), (1, .int (nI x)), (2, .int v)] := hl
          have hw : xW g A0 s0 [(h 2, .inr (5, [.int (nI L), .ref (h 3), .ref (h 4), .ref (h 5), .ref (h 6)])), (h 4, .inl (g.2.1, 200, .inl gr)), (h 6, .inl (g.2.1, 7, .inl st))] _ _ := hw
          exact ih (y + 1) (q - dcl (st 0) (gr y)) (by omega) (by omega) (by omega) ((stL_go (by omega) ce).symm.trans hi) _ _ _ hw hl
        · refine lv_iload hx hb dX5_cellsToStand_29 (lv_at hl 1 rfl) ?_
          refine lv_iload_n hx hb dX5_cellsToStand_31 rfl (lv_at hl 3 rfl) ?_
          refine xn_sub hx hb y x rfl rfl (by omega) dX5_cellsToStand_32 ?_
          exact xr_i hQ E hr hw dX5_cellsToStand_33 ⟨congrArg (fun z => some (Value.int z)) ((stL_at (by omega) ce).symm.trans hi), rfl⟩
  have hl : lv_has ls 5 [(4, .int (nI x)), (3, .int (v * v)), (0, .ref (h 2)), (1, .int (nI x)), (2, .int v)] := lv_sub hl [0, 1, 2, 3, 4] rfl
  have hl : lv_has ls 5 [(4, .int (nI x)), (3, .int (v * v)), (0, .ref (h 2)), (1, .int (nI x)), (2, .int v)] := hl
  have hw : xW g A0 s0 [(h 2, .inr (5, [.int (nI L), .ref (h 3), .ref (h 4), .ref (h 5), .ref (h 6)])), (h 4, .inl (g.2.1, 200, .inl gr)), (h 6, .inl (g.2.1, 7, .inl st))] _ _ := hw
  exact lp_7 ((L - x) + 1) x (v * v) (Nat.lt_succ_self _) (by omega) (by omega) rfl _ _ _ hw hl

set_option maxRecDepth 100000 in
set_option maxHeartbeats 4000000 in
theorem c_X5_fastestToStand (l : Launch) (g : xCfg) (h : Nat → Nat) (L : Nat) (gr : Nat → Int32) (st : Nat → Int32) (x : Nat) (m : Nat) (hL : L ≤ 200) (hx0 : x < L) (hm : m ≤ 200) : Ct l g yX5_fastestToStand cX5_fastestToStand 5 (some .int) (xR 2 34) [.ref (h 2), .int (nI x), .int (nI m)] [(h 2, .inr (5, [.int (nI L), .ref (h 3), .ref (h 4), .ref (h 5), .ref (h 6)])), (h 4, .inl (g.2.1, 200, .inl gr)), (h 6, .inl (g.2.1, 7, .inl st))] (is1 (some (.int (if nI (rtL 15 0 (smD gr (st 0) x (min (L - x) (m + 1)))) < 99 then nI (rtL 15 0 (smD gr (st 0) x (min (L - x) (m + 1)))) else 99))) [(h 2, .inr (5, [.int (nI L), .ref (h 3), .ref (h 4), .ref (h 5), .ref (h 6)])), (h 4, .inl (g.2.1, 200, .inl gr)), (h 6, .inl (g.2.1, 7, .inl st))]) := by
  refine Ct.walk (by decide) (Nat.le_of_ble_eq_true rfl) ?_
  intro p0 e0 s0 m0 below meth c0 A0 ls Q hQ E hr hnm hw hl
  have hx := E.x
  have hb := E.b
  have hl : lv_has ls 5 [(0, .ref (h 2)), (1, .int (nI x)), (2, .int (nI m))] := hl
  refine lv_iconst (v := 0) hx hb dX5_fastestToStand_0 (by decide) ?_
  refine lv_istore_n (lv' := [(3, .int 0), (0, .ref (h 2)), (1, .int (nI x)), (2, .int (nI m))]) hx hb dX5_fastestToStand_1 rfl hl (by decide) rfl (fun ls hl => ?_)
  refine lv_iload_n hx hb dX5_fastestToStand_2 rfl (lv_at hl 2 rfl) ?_
  refine lv_istore (lv' := [(4, .int (nI x)), (3, .int 0), (0, .ref (h 2)), (1, .int (nI x)), (2, .int (nI m))]) hx hb dX5_fastestToStand_3 hl (by decide) rfl (fun ls hl => ?_)
  have lp_5 : ∀ (fuel : Nat) (k : Nat), L - (x + k) < fuel → k ≤ m + 1 → x + k ≤ L → ∀ (H : Heap) (locs : List Loc) (ls : Array Slot), xW g A0 s0 [(h 2, .inr (5, [.int (nI L), .ref (h 3), .ref (h 4), .ref (h 5), .ref (h 6)])), (h 4, .inl (g.2.1, 200, .inl gr)), (h 6, .inl (g.2.1, 7, .inl st))] H locs → lv_has ls 5 [(4, .int (nI (x + k))), (3, .int (smD gr (st 0) x k)), (0, .ref (h 2)), (1, .int (nI x)), (2, .int (nI m))] → W p0 l e0 (xR 2 34) s0 m0 [.ref (h 2), .int (nI x), .int (nI m)].toArray below meth c0 H locs 0 0 Q (F0 m0 5 ls []) := by
    intro fuel
    induction fuel with
    | zero => intro k hm; exact absurd hm (Nat.not_lt_zero _)
    | succ fuel ih =>
      intro k hm h1 h2 H locs ls hw hl
      refine lv_iload hx hb dX5_fastestToStand_5 (lv_at hl 0 rfl) ?_
      refine lv_aload_n hx hb dX5_fastestToStand_7 rfl (lv_at hl 2 rfl) ?_
      refine x_get E hw kf_X5_27 0 rfl rfl dX5_fastestToStand_8 ?_
      refine xn_ge (tgt := 37) hx hb (x + k) L rfl rfl (by omega) (by omega) dX5_fastestToStand_11 (by decide) (fun c_1 => ?_) (fun c_1 => ?_)
      · obtain rfl : k = min (L - x) (m + 1) := by rw [Nat.min_def]; split <;> omega
        refine lv_bipush (v := 99) hx hb dX5_fastestToStand_37 (by decide) ?_
        refine lv_iload_n hx hb dX5_fastestToStand_39 rfl (lv_at hl 1 rfl) ?_
        refine x_go (ws' := [(h 2, .inr (5, [.int (nI L), .ref (h 3), .ref (h 4), .ref (h 5), .ref (h 6)])), (h 4, .inl (g.2.1, 200, .inl gr)), (h 6, .inl (g.2.1, 7, .inl st))]) (st1 := [.int (nI (rtL 15 0 (smD gr (st 0) x (min (L - x) (m + 1))))), .int 99]) E hw [] rfl (x_runSN (rest := [.int 99]) E hw (c_X7_root l g (smD gr (st 0) x (min (L - x) (m + 1))) ) km_X5_65 ks_X7_root [] rfl (by decide) hl.1 rfl rfl (Nat.le_of_ble_eq_true rfl) ⟨Nat.le_of_ble_eq_true rfl, Nat.le_of_ble_eq_true rfl⟩ ⟨Nat.zero_le _, Nat.zero_le _⟩ dX5_fastestToStand_40) rfl rfl rfl (fun H locs hw => ?_)
        refine x_min E km_X5_68 hl.1 (Nat.le_of_ble_eq_true rfl) (Nat.le_of_ble_eq_true rfl) ⟨Nat.zero_le _, Nat.zero_le _⟩ dX5_fastestToStand_43 ?_
        exact xr_i hQ E hr hw dX5_fastestToStand_46 ⟨rfl, rfl⟩
      · refine lv_iload hx hb dX5_fastestToStand_14 (lv_at hl 0 rfl) ?_
        refine lv_iload_n hx hb dX5_fastestToStand_16 rfl (lv_at hl 3 rfl) ?_
        refine xn_sub hx hb (x + k) x rfl rfl (by omega) dX5_fastestToStand_17 ?_
        refine x_top (v' := .int (nI k)) (congrArg Value.int (congrArg nI (by omega))) ?_
        refine lv_iload_n hx hb dX5_fastestToStand_18 rfl (lv_at hl 4 rfl) ?_
        refine xn_gt (tgt := 37) hx hb k m rfl rfl (by omega) (by omega) dX5_fastestToStand_19 (by decide) (fun c_2 => ?_) (fun c_2 => ?_)
        · obtain rfl : k = min (L - x) (m + 1) := by rw [Nat.min_def]; split <;> omega
          refine lv_bipush (v := 99) hx hb dX5_fastestToStand_37 (by decide) ?_
          refine lv_iload_n hx hb dX5_fastestToStand_39 rfl (lv_at hl 1 rfl) ?_
          refine x_go (ws' := [(h 2, .inr (5, [.int (nI L), .ref (h 3), .ref (h 4), .ref (h 5), .ref (h 6)])), (h 4, .inl (g.2.1, 200, .inl gr)), (h 6, .inl (g.2.1, 7, .inl st))]) (st1 := [.int (nI (rtL 15 0 (smD gr (st 0) x (min (L - x) (m + 1))))), .int 99]) E hw [] rfl (x_runSN (rest := [.int 99]) E hw (c_X7_root l g (smD gr (st 0) x (min (L - x) (m + 1))) ) km_X5_65 ks_X7_root [] rfl (by decide) hl.1 rfl rfl (Nat.le_of_ble_eq_true rfl) ⟨Nat.le_of_ble_eq_true rfl, Nat.le_of_ble_eq_true rfl⟩ ⟨Nat.zero_le _, Nat.zero_le _⟩ dX5_fastestToStand_40) rfl rfl rfl (fun H locs hw => ?_)
          refine x_min E km_X5_68 hl.1 (Nat.le_of_ble_eq_true rfl) (Nat.le_of_ble_eq_true rfl) ⟨Nat.zero_le _, Nat.zero_le _⟩ dX5_fastestToStand_43 ?_
          exact xr_i hQ E hr hw dX5_fastestToStand_46 ⟨rfl, rfl⟩
        · refine lv_iload_n hx hb dX5_fastestToStand_22 rfl (lv_at hl 1 rfl) ?_
          refine lv_aload_n hx hb dX5_fastestToStand_23 rfl (lv_at hl 2 rfl) ?_
          refine lv_iload hx hb dX5_fastestToStand_24 (lv_at hl 0 rfl) ?_
          refine x_go (ws' := [(h 2, .inr (5, [.int (nI L), .ref (h 3), .ref (h 4), .ref (h 5), .ref (h 6)])), (h 4, .inl (g.2.1, 200, .inl gr)), (h 6, .inl (g.2.1, 7, .inl st))]) (st1 := [.int (dcl (st 0) (gr (x + k))), .int (smD gr (st 0) x k)]) E hw [0, 1, 2] rfl (x_runV (rest := [.int (smD gr (st 0) x k)]) E hw (c_X5_decel l g h L gr st (x + k) (by omega)) km_X5_61 kv_X5_decel [0, 1, 2] rfl (by decide) 0 rfl hl.1 rfl rfl (Nat.le_of_ble_eq_true rfl) ⟨Nat.le_of_ble_eq_true rfl, Nat.le_of_ble_eq_true rfl⟩ ⟨Nat.zero_le _, Nat.zero_le _⟩ dX5_fastestToStand_26) rfl rfl rfl (fun H locs hw => ?_)
          refine lv_iadd hx hb dX5_fastestToStand_29 ?_
          refine x_top (v' := .int (smD gr (st 0) x (k + 1))) rfl ?_
          refine lv_istore_n (lv' := [(3, .int (smD gr (st 0) x (k + 1))), (4, .int (nI (x + k))), (0, .ref (h 2)), (1, .int (nI x)), (2, .int (nI m))]) hx hb dX5_fastestToStand_30 rfl hl (by decide) rfl (fun ls hl => ?_)
          refine lv_iinc (v := nI (x + k + 1)) (lv' := [(4, .int (nI (x + k + 1))), (3, .int (smD gr (st 0) x (k + 1))), (0, .ref (h 2)), (1, .int (nI x)), (2, .int (nI m))]) hx hb dX5_fastestToStand_31 hl (k := 1) rfl (nI_1 _) (by decide) rfl (fun ls hl => ?_)
          refine lv_goto (tgt := 5) hx hb dX5_fastestToStand_34 (by decide) ?_
          have hl : lv_has ls 5 [(4, .int (nI (x + k + 1))), (3, .int (smD gr (st 0) x (k + 1))), (0, .ref (h 2)), (1, .int (nI x)), (2, .int (nI m))] := lv_sub hl [0, 1, 2, 3, 4] rfl
          have hl : lv_has ls 5 [(4, .int (nI (x + (k + 1)))), (3, .int (smD gr (st 0) x (k + 1))), (0, .ref (h 2)), (1, .int (nI x)), (2, .int (nI m))] := lv_re hl (by rw [show (nI (x + k + 1) : Int32) = nI (x + (k + 1)) from congrArg nI (by omega)])
          have hw : xW g A0 s0 [(h 2, .inr (5, [.int (nI L), .ref (h 3), .ref (h 4), .ref (h 5), .ref (h 6)])), (h 4, .inl (g.2.1, 200, .inl gr)), (h 6, .inl (g.2.1, 7, .inl st))] _ _ := hw
          exact ih (k + 1) (by omega) (by omega) (by omega) _ _ _ hw hl
  have hl : lv_has ls 5 [(4, .int (nI x)), (3, .int 0), (0, .ref (h 2)), (1, .int (nI x)), (2, .int (nI m))] := lv_sub hl [0, 1, 2, 3, 4] rfl
  have hl : lv_has ls 5 [(4, .int (nI (x + 0))), (3, .int (smD gr (st 0) x 0)), (0, .ref (h 2)), (1, .int (nI x)), (2, .int (nI m))] := lv_re hl (by rw [show (0 : Int32) = smD gr (st 0) x 0 from rfl, show (nI x : Int32) = nI (x + 0) from congrArg nI rfl])
  have hw : xW g A0 s0 [(h 2, .inr (5, [.int (nI L), .ref (h 3), .ref (h 4), .ref (h 5), .ref (h 6)])), (h 4, .inl (g.2.1, 200, .inl gr)), (h 6, .inl (g.2.1, 7, .inl st))] _ _ := hw
  exact lp_5 ((L - (x + 0)) + 1) 0 (Nat.lt_succ_self _) (by omega) (by omega) _ _ _ hw hl

set_option maxRecDepth 100000 in
set_option maxHeartbeats 4000000 in
theorem c_X5_copies (l : Launch) (g : xCfg) (h : Nat → Nat) (k : Nat → Nat) (L : Nat) (ce : Nat → Int32) (gr : Nat → Int32) (be : Nat → Int32) (st : Nat → Int32) (L2 : Nat) (ce2 : Nat → Int32) (gr2 : Nat → Int32) (be2 : Nat → Int32) (st2 : Nat → Int32)  : Ct l g yX5_copies cX5_copies 2 none (xR 1 18) [.ref (h 2), .ref (k 2)] [(h 2, .inr (5, [.int (nI L), .ref (h 3), .ref (h 4), .ref (h 5), .ref (h 6)])), (h 3, .inl (g.2.1, 200, .inl ce)), (h 4, .inl (g.2.1, 200, .inl gr)), (h 5, .inl (g.2.1, 200, .inl be)), (h 6, .inl (g.2.1, 7, .inl st)), (k 2, .inr (5, [.int (nI L2), .ref (k 3), .ref (k 4), .ref (k 5), .ref (k 6)])), (k 3, .inl (g.2.1, 200, .inl ce2)), (k 4, .inl (g.2.1, 200, .inl gr2)), (k 5, .inl (g.2.1, 200, .inl be2)), (k 6, .inl (g.2.1, 7, .inl st2))] (is1 none [(h 2, .inr (5, [.int (nI L2), .ref (h 3), .ref (h 4), .ref (h 5), .ref (h 6)])), (h 3, .inl (g.2.1, 200, .inl ce2)), (h 4, .inl (g.2.1, 200, .inl gr2)), (h 5, .inl (g.2.1, 200, .inl be2)), (h 6, .inl (g.2.1, 7, .inl st2)), (k 2, .inr (5, [.int (nI L2), .ref (k 3), .ref (k 4), .ref (k 5), .ref (k 6)])), (k 3, .inl (g.2.1, 200, .inl ce2)), (k 4, .inl (g.2.1, 200, .inl gr2)), (k 5, .inl (g.2.1, 200, .inl be2)), (k 6, .inl (g.2.1, 7, .inl st2))]) := by
  refine Ct.walk (by decide) (Nat.le_of_ble_eq_true rfl) ?_
  intro p0 e0 s0 m0 below meth c0 A0 ls Q hQ E hr hnm hw hl
  have hx := E.x
  have hb := E.b
  have hl : lv_has ls 2 [(0, .ref (h 2)), (1, .ref (k 2))] := hl
  refine lv_aload_n hx hb dX5_copies_0 rfl (lv_at hl 0 rfl) ?_
  refine lv_aload_n hx hb dX5_copies_1 rfl (lv_at hl 1 rfl) ?_
  refine x_get E hw kf_X5_27 5 rfl rfl dX5_copies_2 ?_
  refine x_put E hw kf_X5_27 kp_X5_0 0 rfl (ty := .int) (by decide +kernel) rfl rfl (by simp) (ws' := [(h 2, .inr (5, [.int (nI L2), .ref (h 3), .ref (h 4), .ref (h 5), .ref (h 6)])), (h 3, .inl (g.2.1, 200, .inl ce)), (h 4, .inl (g.2.1, 200, .inl gr)), (h 5, .inl (g.2.1, 200, .inl be)), (h 6, .inl (g.2.1, 7, .inl st)), (k 2, .inr (5, [.int (nI L2), .ref (k 3), .ref (k 4), .ref (k 5), .ref (k 6)])), (k 3, .inl (g.2.1, 200, .inl ce2)), (k 4, .inl (g.2.1, 200, .inl gr2)), (k 5, .inl (g.2.1, 200, .inl be2)), (k 6, .inl (g.2.1, 7, .inl st2))]) rfl dX5_copies_5 (fun H locs hw => ?_)
  refine lv_aload_n hx hb dX5_copies_8 rfl (lv_at hl 1 rfl) ?_
  refine x_get E hw kf_X5_11 5 rfl rfl dX5_copies_9 ?_
  refine lv_iconst (v := 0) hx hb dX5_copies_12 (by decide) ?_
  refine lv_aload_n hx hb dX5_copies_13 rfl (lv_at hl 0 rfl) ?_
  refine x_get E hw kf_X5_11 0 rfl rfl dX5_copies_14 ?_
  refine lv_iconst (v := 0) hx hb dX5_copies_17 (by decide) ?_
  refine lv_sipush (v := 200) hx hb dX5_copies_18 (by decide) ?_
  refine x_copy (ws' := [(h 2, .inr (5, [.int (nI L2), .ref (h 3), .ref (h 4), .ref (h 5), .ref (h 6)])), (h 3, .inl (g.2.1, 200, .inl ce2)), (h 4, .inl (g.2.1, 200, .inl gr)), (h 5, .inl (g.2.1, 200, .inl be)), (h 6, .inl (g.2.1, 7, .inl st)), (k 2, .inr (5, [.int (nI L2), .ref (k 3), .ref (k 4), .ref (k 5), .ref (k 6)])), (k 3, .inl (g.2.1, 200, .inl ce2)), (k 4, .inl (g.2.1, 200, .inl gr2)), (k 5, .inl (g.2.1, 200, .inl be2)), (k 6, .inl (g.2.1, 7, .inl st2))]) (q0 := 6) (q1 := 1) E hw kcopy_X5_31 rfl rfl (by decide) hl.1 rfl rfl rfl (Nat.le_of_ble_eq_true rfl) (by decide) rfl dX5_copies_21 (fun H locs hw => ?_)
  refine lv_aload_n hx hb dX5_copies_24 rfl (lv_at hl 1 rfl) ?_
  refine x_get E hw kf_X5_15 5 rfl rfl dX5_copies_25 ?_
  refine lv_iconst (v := 0) hx hb dX5_copies_28 (by decide) ?_
  refine lv_aload_n hx hb dX5_copies_29 rfl (lv_at hl 0 rfl) ?_
  refine x_get E hw kf_X5_15 0 rfl rfl dX5_copies_30 ?_
  refine lv_iconst (v := 0) hx hb dX5_copies_33 (by decide) ?_
  refine lv_sipush (v := 200) hx hb dX5_copies_34 (by decide) ?_
  refine x_copy (ws' := [(h 2, .inr (5, [.int (nI L2), .ref (h 3), .ref (h 4), .ref (h 5), .ref (h 6)])), (h 3, .inl (g.2.1, 200, .inl ce2)), (h 4, .inl (g.2.1, 200, .inl gr2)), (h 5, .inl (g.2.1, 200, .inl be)), (h 6, .inl (g.2.1, 7, .inl st)), (k 2, .inr (5, [.int (nI L2), .ref (k 3), .ref (k 4), .ref (k 5), .ref (k 6)])), (k 3, .inl (g.2.1, 200, .inl ce2)), (k 4, .inl (g.2.1, 200, .inl gr2)), (k 5, .inl (g.2.1, 200, .inl be2)), (k 6, .inl (g.2.1, 7, .inl st2))]) (q0 := 7) (q1 := 2) E hw kcopy_X5_31 rfl rfl (by decide) hl.1 rfl rfl rfl (Nat.le_of_ble_eq_true rfl) (by decide) rfl dX5_copies_37 (fun H locs hw => ?_)
  refine lv_aload_n hx hb dX5_copies_40 rfl (lv_at hl 1 rfl) ?_
  refine x_get E hw kf_X5_18 5 rfl rfl dX5_copies_41 ?_
  refine lv_iconst (v := 0) hx hb dX5_copies_44 (by decide) ?_
  refine lv_aload_n hx hb dX5_copies_45 rfl (lv_at hl 0 rfl) ?_
  refine x_get E hw kf_X5_18 0 rfl rfl dX5_copies_46 ?_
  refine lv_iconst (v := 0) hx hb dX5_copies_49 (by decide) ?_
  refine lv_sipush (v := 200) hx hb dX5_copies_50 (by decide) ?_
  refine x_copy (ws' := [(h 2, .inr (5, [.int (nI L2), .ref (h 3), .ref (h 4), .ref (h 5), .ref (h 6)])), (h 3, .inl (g.2.1, 200, .inl ce2)), (h 4, .inl (g.2.1, 200, .inl gr2)), (h 5, .inl (g.2.1, 200, .inl be2)), (h 6, .inl (g.2.1, 7, .inl st)), (k 2, .inr (5, [.int (nI L2), .ref (k 3), .ref (k 4), .ref (k 5), .ref (k 6)])), (k 3, .inl (g.2.1, 200, .inl ce2)), (k 4, .inl (g.2.1, 200, .inl gr2)), (k 5, .inl (g.2.1, 200, .inl be2)), (k 6, .inl (g.2.1, 7, .inl st2))]) (q0 := 8) (q1 := 3) E hw kcopy_X5_31 rfl rfl (by decide) hl.1 rfl rfl rfl (Nat.le_of_ble_eq_true rfl) (by decide) rfl dX5_copies_53 (fun H locs hw => ?_)
  refine lv_aload_n hx hb dX5_copies_56 rfl (lv_at hl 1 rfl) ?_
  refine x_get E hw kf_X5_24 5 rfl rfl dX5_copies_57 ?_
  refine lv_iconst (v := 0) hx hb dX5_copies_60 (by decide) ?_
  refine lv_aload_n hx hb dX5_copies_61 rfl (lv_at hl 0 rfl) ?_
  refine x_get E hw kf_X5_24 0 rfl rfl dX5_copies_62 ?_
  refine lv_iconst (v := 0) hx hb dX5_copies_65 (by decide) ?_
  refine va_gets hx hb E.2.2.2.2.2.1.1 hw.2.2 E.ow (E.ts (.fieldLink RX5 21 RX5 "FIRST" "[I") (wB 142 rfl rfl)) (fun _ h => h) dX5_copies_66 ?_
  refine va_tlen (v := 7) hx hb E.2.2.2.2.2.1.2 hw.2.2 rfl dX5_copies_69 ?_
  refine x_copy (ws' := [(h 2, .inr (5, [.int (nI L2), .ref (h 3), .ref (h 4), .ref (h 5), .ref (h 6)])), (h 3, .inl (g.2.1, 200, .inl ce2)), (h 4, .inl (g.2.1, 200, .inl gr2)), (h 5, .inl (g.2.1, 200, .inl be2)), (h 6, .inl (g.2.1, 7, .inl st2)), (k 2, .inr (5, [.int (nI L2), .ref (k 3), .ref (k 4), .ref (k 5), .ref (k 6)])), (k 3, .inl (g.2.1, 200, .inl ce2)), (k 4, .inl (g.2.1, 200, .inl gr2)), (k 5, .inl (g.2.1, 200, .inl be2)), (k 6, .inl (g.2.1, 7, .inl st2))]) (q0 := 9) (q1 := 4) E hw kcopy_X5_31 rfl rfl (by decide) hl.1 rfl rfl rfl (Nat.le_of_ble_eq_true rfl) (by decide) rfl dX5_copies_70 (fun H locs hw => ?_)
  exact xr_v hQ E hr hw dX5_copies_73 ⟨rfl, rfl⟩

set_option maxRecDepth 100000 in
set_option maxHeartbeats 4000000 in
theorem c_X6_copies (l : Launch) (g : xCfg) (h : Nat → Nat) (k : Nat → Nat) (fr : Nat) (q : Int32) (md : Int32) (lo : Int32) (hi : Int32) (al : Int32) (ov : Int32) (wo : Int32) (fr2 : Nat) (q2 : Int32) (md2 : Int32) (lo2 : Int32) (hi2 : Int32) (al2 : Int32) (ov2 : Int32) (wo2 : Int32)  : Ct l g yX6_copies cX6_copies 2 none (xR 0 0) [.ref (h 7), .ref (k 7)] [(h 7, .inr (6, [.int (nI fr), .int q, .int md, .int lo, .int hi, .int al, .int ov, .int wo])), (k 7, .inr (6, [.int (nI fr2), .int q2, .int md2, .int lo2, .int hi2, .int al2, .int ov2, .int wo2]))] (is1 none [(h 7, .inr (6, [.int (nI fr2), .int q2, .int md2, .int lo2, .int hi2, .int al2, .int ov2, .int wo2])), (k 7, .inr (6, [.int (nI fr2), .int q2, .int md2, .int lo2, .int hi2, .int al2, .int ov2, .int wo2]))]) := by
  refine Ct.walk (by decide) (Nat.le_of_ble_eq_true rfl) ?_
  intro p0 e0 s0 m0 below meth c0 A0 ls Q hQ E hr hnm hw hl
  have hx := E.x
  have hb := E.b
  have hl : lv_has ls 2 [(0, .ref (h 7)), (1, .ref (k 7))] := hl
  refine lv_aload_n hx hb dX6_copies_0 rfl (lv_at hl 0 rfl) ?_
  refine lv_aload_n hx hb dX6_copies_1 rfl (lv_at hl 1 rfl) ?_
  refine x_get E hw kf_X6_9 1 rfl rfl dX6_copies_2 ?_
  refine x_put E hw kf_X6_9 kp_X6_0 0 rfl (ty := .int) (by decide +kernel) rfl rfl (by simp) (ws' := [(h 7, .inr (6, [.int (nI fr2), .int q, .int md, .int lo, .int hi, .int al, .int ov, .int wo])), (k 7, .inr (6, [.int (nI fr2), .int q2, .int md2, .int lo2, .int hi2, .int al2, .int ov2, .int wo2]))]) rfl dX6_copies_5 (fun H locs hw => ?_)
  refine lv_aload_n hx hb dX6_copies_8 rfl (lv_at hl 0 rfl) ?_
  refine lv_aload_n hx hb dX6_copies_9 rfl (lv_at hl 1 rfl) ?_
  refine x_get E hw kf_X6_15 1 rfl rfl dX6_copies_10 ?_
  refine x_put E hw kf_X6_15 kp_X6_1 0 rfl (ty := .int) (by decide +kernel) rfl rfl (by simp) (ws' := [(h 7, .inr (6, [.int (nI fr2), .int q2, .int md, .int lo, .int hi, .int al, .int ov, .int wo])), (k 7, .inr (6, [.int (nI fr2), .int q2, .int md2, .int lo2, .int hi2, .int al2, .int ov2, .int wo2]))]) rfl dX6_copies_13 (fun H locs hw => ?_)
  refine lv_aload_n hx hb dX6_copies_16 rfl (lv_at hl 0 rfl) ?_
  refine lv_aload_n hx hb dX6_copies_17 rfl (lv_at hl 1 rfl) ?_
  refine x_get E hw kf_X6_18 1 rfl rfl dX6_copies_18 ?_
  refine x_put E hw kf_X6_18 kp_X6_2 0 rfl (ty := .int) (by decide +kernel) rfl rfl (by simp) (ws' := [(h 7, .inr (6, [.int (nI fr2), .int q2, .int md2, .int lo, .int hi, .int al, .int ov, .int wo])), (k 7, .inr (6, [.int (nI fr2), .int q2, .int md2, .int lo2, .int hi2, .int al2, .int ov2, .int wo2]))]) rfl dX6_copies_21 (fun H locs hw => ?_)
  refine lv_aload_n hx hb dX6_copies_24 rfl (lv_at hl 0 rfl) ?_
  refine lv_aload_n hx hb dX6_copies_25 rfl (lv_at hl 1 rfl) ?_
  refine x_get E hw kf_X6_21 1 rfl rfl dX6_copies_26 ?_
  refine x_put E hw kf_X6_21 kp_X6_3 0 rfl (ty := .int) (by decide +kernel) rfl rfl (by simp) (ws' := [(h 7, .inr (6, [.int (nI fr2), .int q2, .int md2, .int lo2, .int hi, .int al, .int ov, .int wo])), (k 7, .inr (6, [.int (nI fr2), .int q2, .int md2, .int lo2, .int hi2, .int al2, .int ov2, .int wo2]))]) rfl dX6_copies_29 (fun H locs hw => ?_)
  refine lv_aload_n hx hb dX6_copies_32 rfl (lv_at hl 0 rfl) ?_
  refine lv_aload_n hx hb dX6_copies_33 rfl (lv_at hl 1 rfl) ?_
  refine x_get E hw kf_X6_24 1 rfl rfl dX6_copies_34 ?_
  refine x_put E hw kf_X6_24 kp_X6_4 0 rfl (ty := .int) (by decide +kernel) rfl rfl (by simp) (ws' := [(h 7, .inr (6, [.int (nI fr2), .int q2, .int md2, .int lo2, .int hi2, .int al, .int ov, .int wo])), (k 7, .inr (6, [.int (nI fr2), .int q2, .int md2, .int lo2, .int hi2, .int al2, .int ov2, .int wo2]))]) rfl dX6_copies_37 (fun H locs hw => ?_)
  refine lv_aload_n hx hb dX6_copies_40 rfl (lv_at hl 0 rfl) ?_
  refine lv_aload_n hx hb dX6_copies_41 rfl (lv_at hl 1 rfl) ?_
  refine x_get E hw kf_X6_27 1 rfl rfl dX6_copies_42 ?_
  refine x_put E hw kf_X6_27 kp_X6_5 0 rfl (ty := .int) (by decide +kernel) rfl rfl (by simp) (ws' := [(h 7, .inr (6, [.int (nI fr2), .int q2, .int md2, .int lo2, .int hi2, .int al2, .int ov, .int wo])), (k 7, .inr (6, [.int (nI fr2), .int q2, .int md2, .int lo2, .int hi2, .int al2, .int ov2, .int wo2]))]) rfl dX6_copies_45 (fun H locs hw => ?_)
  refine lv_aload_n hx hb dX6_copies_48 rfl (lv_at hl 0 rfl) ?_
  refine lv_aload_n hx hb dX6_copies_49 rfl (lv_at hl 1 rfl) ?_
  refine x_get E hw kf_X6_30 1 rfl rfl dX6_copies_50 ?_
  refine x_put E hw kf_X6_30 kp_X6_6 0 rfl (ty := .int) (by decide +kernel) rfl rfl (by simp) (ws' := [(h 7, .inr (6, [.int (nI fr2), .int q2, .int md2, .int lo2, .int hi2, .int al2, .int ov2, .int wo])), (k 7, .inr (6, [.int (nI fr2), .int q2, .int md2, .int lo2, .int hi2, .int al2, .int ov2, .int wo2]))]) rfl dX6_copies_53 (fun H locs hw => ?_)
  refine lv_aload_n hx hb dX6_copies_56 rfl (lv_at hl 0 rfl) ?_
  refine lv_aload_n hx hb dX6_copies_57 rfl (lv_at hl 1 rfl) ?_
  refine x_get E hw kf_X6_33 1 rfl rfl dX6_copies_58 ?_
  refine x_put E hw kf_X6_33 kp_X6_7 0 rfl (ty := .int) (by decide +kernel) rfl rfl (by simp) (ws' := [(h 7, .inr (6, [.int (nI fr2), .int q2, .int md2, .int lo2, .int hi2, .int al2, .int ov2, .int wo2])), (k 7, .inr (6, [.int (nI fr2), .int q2, .int md2, .int lo2, .int hi2, .int al2, .int ov2, .int wo2]))]) rfl dX6_copies_61 (fun H locs hw => ?_)
  exact xr_v hQ E hr hw dX6_copies_64 ⟨rfl, rfl⟩

set_option maxRecDepth 100000 in
set_option maxHeartbeats 4000000 in
theorem c_X6_knowsPlace (l : Launch) (g : xCfg) (h : Nat → Nat) (fr : Nat) (q : Int32) (md : Int32) (lo : Int32) (hi : Int32) (al : Int32) (ov : Int32) (wo : Int32)  : Ct l g yX6_knowsPlace cX6_knowsPlace 1 none (xR 0 0) [.ref (h 7)] [(h 7, .inr (6, [.int (nI fr), .int q, .int md, .int lo, .int hi, .int al, .int ov, .int wo]))] (is1 none [(h 7, .inr (6, [.int (nI fr), .int q, .int md, .int (nI (1000 * fr)), .int (nI (1000 * fr)), .int al, .int ov, .int wo]))]) := by
  refine Ct.walk (by decide) (Nat.le_of_ble_eq_true rfl) ?_
  intro p0 e0 s0 m0 below meth c0 A0 ls Q hQ E hr hnm hw hl
  have hx := E.x
  have hb := E.b
  have hl : lv_has ls 1 [(0, .ref (h 7))] := hl
  refine lv_aload_n hx hb dX6_knowsPlace_0 rfl (lv_at hl 0 rfl) ?_
  refine lv_sipush (v := 1000) hx hb dX6_knowsPlace_1 (by decide) ?_
  refine lv_aload_n hx hb dX6_knowsPlace_4 rfl (lv_at hl 0 rfl) ?_
  refine x_get E hw kf_X6_9 0 rfl rfl dX6_knowsPlace_5 ?_
  refine xn_mul hx hb 1000 fr rfl rfl dX6_knowsPlace_8 ?_
  refine x_put E hw kf_X6_21 kp_X6_3 0 rfl (ty := .int) (by decide +kernel) rfl rfl (by simp) (ws' := [(h 7, .inr (6, [.int (nI fr), .int q, .int md, .int (nI (1000 * fr)), .int hi, .int al, .int ov, .int wo]))]) rfl dX6_knowsPlace_9 (fun H locs hw => ?_)
  refine lv_aload_n hx hb dX6_knowsPlace_12 rfl (lv_at hl 0 rfl) ?_
  refine lv_sipush (v := 1000) hx hb dX6_knowsPlace_13 (by decide) ?_
  refine lv_aload_n hx hb dX6_knowsPlace_16 rfl (lv_at hl 0 rfl) ?_
  refine x_get E hw kf_X6_9 0 rfl rfl dX6_knowsPlace_17 ?_
  refine xn_mul hx hb 1000 fr rfl rfl dX6_knowsPlace_20 ?_
  refine x_put E hw kf_X6_24 kp_X6_4 0 rfl (ty := .int) (by decide +kernel) rfl rfl (by simp) (ws' := [(h 7, .inr (6, [.int (nI fr), .int q, .int md, .int (nI (1000 * fr)), .int (nI (1000 * fr)), .int al, .int ov, .int wo]))]) rfl dX6_knowsPlace_21 (fun H locs hw => ?_)
  exact xr_v hQ E hr hw dX6_knowsPlace_24 ⟨rfl, rfl⟩

set_option maxRecDepth 100000 in
set_option maxHeartbeats 4000000 in
theorem c_X6_puts (l : Launch) (g : xCfg) (h : Nat → Nat) (fr : Nat) (q : Int32) (md : Int32) (lo : Int32) (hi : Int32) (al : Int32) (ov : Int32) (wo : Int32) (x : Nat) (v : Int32)  : Ct l g yX6_puts cX6_puts 3 none (xR 1 20) [.ref (h 7), .int (nI x), .int v] [(h 7, .inr (6, [.int (nI fr), .int q, .int md, .int lo, .int hi, .int al, .int ov, .int wo]))] (is1 none [(h 7, .inr (6, [.int (nI x), .int v, .int 0, .int (nI (1000 * x)), .int (nI (1000 * x)), .int al, .int ov, .int wo]))]) := by
  refine Ct.walk (by decide) (Nat.le_of_ble_eq_true rfl) ?_
  intro p0 e0 s0 m0 below meth c0 A0 ls Q hQ E hr hnm hw hl
  have hx := E.x
  have hb := E.b
  have hl : lv_has ls 3 [(0, .ref (h 7)), (1, .int (nI x)), (2, .int v)] := hl
  refine lv_aload_n hx hb dX6_puts_0 rfl (lv_at hl 0 rfl) ?_
  refine lv_iload_n hx hb dX6_puts_1 rfl (lv_at hl 1 rfl) ?_
  refine x_put E hw kf_X6_9 kp_X6_0 0 rfl (ty := .int) (by decide +kernel) rfl rfl (by simp) (ws' := [(h 7, .inr (6, [.int (nI x), .int q, .int md, .int lo, .int hi, .int al, .int ov, .int wo]))]) rfl dX6_puts_2 (fun H locs hw => ?_)
  refine lv_aload_n hx hb dX6_puts_5 rfl (lv_at hl 0 rfl) ?_
  refine lv_iload_n hx hb dX6_puts_6 rfl (lv_at hl 2 rfl) ?_
  refine x_put E hw kf_X6_15 kp_X6_1 0 rfl (ty := .int) (by decide +kernel) rfl rfl (by simp) (ws' := [(h 7, .inr (6, [.int (nI x), .int v, .int md, .int lo, .int hi, .int al, .int ov, .int wo]))]) rfl dX6_puts_7 (fun H locs hw => ?_)
  refine lv_aload_n hx hb dX6_puts_10 rfl (lv_at hl 0 rfl) ?_
  refine lv_iconst (v := 0) hx hb dX6_puts_11 (by decide) ?_
  refine x_put E hw kf_X6_18 kp_X6_2 0 rfl (ty := .int) (by decide +kernel) rfl rfl (by simp) (ws' := [(h 7, .inr (6, [.int (nI x), .int v, .int 0, .int lo, .int hi, .int al, .int ov, .int wo]))]) rfl dX6_puts_12 (fun H locs hw => ?_)
  refine lv_aload_n hx hb dX6_puts_15 rfl (lv_at hl 0 rfl) ?_
  refine x_go (ws' := [(h 7, .inr (6, [.int (nI x), .int v, .int 0, .int (nI (1000 * x)), .int (nI (1000 * x)), .int al, .int ov, .int wo]))]) (st1 := []) E hw [0] rfl (x_runV (rest := []) E hw (c_X6_knowsPlace l g h x v 0 lo hi al ov wo ) km_X6_36 kv_X6_knowsPlace [0] rfl (by decide) 0 rfl hl.1 rfl rfl (Nat.le_of_ble_eq_true rfl) ⟨Nat.le_of_ble_eq_true rfl, Nat.le_of_ble_eq_true rfl⟩ ⟨Nat.zero_le _, Nat.zero_le _⟩ dX6_puts_16) rfl rfl rfl (fun H locs hw => ?_)
  exact xr_v hQ E hr hw dX6_puts_19 ⟨rfl, rfl⟩

set_option maxRecDepth 100000 in
set_option maxHeartbeats 4000000 in
theorem c_X6_goesOn (l : Launch) (g : xCfg) (h : Nat → Nat) (fr : Nat) (q : Int32) (md : Int32) (lo : Int32) (hi : Int32) (al : Int32) (ov : Int32) (wo : Int32) (v : Int32) (L : Nat) (be : Nat → Int32) (st : Nat → Int32) (hf : fr + 1 < 200) : Ct l g yX6_goesOn cX6_goesOn 3 none (xR 1 20) [.ref (h 7), .int v, .ref (h 2)] [(h 7, .inr (6, [.int (nI fr), .int q, .int md, .int lo, .int hi, .int al, .int ov, .int wo])), (h 2, .inr (5, [.int (nI L), .ref (h 3), .ref (h 4), .ref (h 5), .ref (h 6)])), (h 5, .inl (g.2.1, 200, .inl be)), (h 6, .inl (g.2.1, 7, .inl st))] (is1 none [(h 7, .inr (6, [.int (nI (fr + 1)), .int v, .int md, .int (if be (fr + 1) = 1 then nI (1000 * (fr + 1)) else lo + (1000 - st 3)), .int (if be (fr + 1) = 1 then nI (1000 * (fr + 1)) else hi + (1000 + st 3)), .int al, .int ov, .int (wo + 1)])), (h 2, .inr (5, [.int (nI L), .ref (h 3), .ref (h 4), .ref (h 5), .ref (h 6)])), (h 5, .inl (g.2.1, 200, .inl be)), (h 6, .inl (g.2.1, 7, .inl st))]) := by
  refine Ct.walk (by decide) (Nat.le_of_ble_eq_true rfl) ?_
  intro p0 e0 s0 m0 below meth c0 A0 ls Q hQ E hr hnm hw hl
  have hx := E.x
  have hb := E.b
  have hl : lv_has ls 3 [(0, .ref (h 7)), (1, .int v), (2, .ref (h 2))] := hl
  refine lv_aload_n hx hb dX6_goesOn_0 rfl (lv_at hl 0 rfl) ?_
  refine lv_iload_n hx hb dX6_goesOn_1 rfl (lv_at hl 1 rfl) ?_
  refine x_put E hw kf_X6_15 kp_X6_1 0 rfl (ty := .int) (by decide +kernel) rfl rfl (by simp) (ws' := [(h 7, .inr (6, [.int (nI fr), .int v, .int md, .int lo, .int hi, .int al, .int ov, .int wo])), (h 2, .inr (5, [.int (nI L), .ref (h 3), .ref (h 4), .ref (h 5), .ref (h 6)])), (h 5, .inl (g.2.1, 200, .inl be)), (h 6, .inl (g.2.1, 7, .inl st))]) rfl dX6_goesOn_2 (fun H locs hw => ?_)
  refine lv_aload_n hx hb dX6_goesOn_5 rfl (lv_at hl 0 rfl) ?_
  refine lv_dup hx hb dX6_goesOn_6 rfl ?_
  refine x_get E hw kf_X6_9 0 rfl rfl dX6_goesOn_7 ?_
  refine lv_iconst (v := 1) hx hb dX6_goesOn_10 (by decide) ?_
  refine xn_add hx hb fr 1 rfl rfl dX6_goesOn_11 ?_
  refine x_put E hw kf_X6_9 kp_X6_0 0 rfl (ty := .int) (by decide +kernel) rfl rfl (by simp) (ws' := [(h 7, .inr (6, [.int (nI (fr + 1)), .int v, .int md, .int lo, .int hi, .int al, .int ov, .int wo])), (h 2, .inr (5, [.int (nI L), .ref (h 3), .ref (h 4), .ref (h 5), .ref (h 6)])), (h 5, .inl (g.2.1, 200, .inl be)), (h 6, .inl (g.2.1, 7, .inl st))]) rfl dX6_goesOn_12 (fun H locs hw => ?_)
  refine lv_aload_n hx hb dX6_goesOn_15 rfl (lv_at hl 0 rfl) ?_
  refine lv_dup hx hb dX6_goesOn_16 rfl ?_
  refine x_get E hw kf_X6_33 0 rfl rfl dX6_goesOn_17 ?_
  refine lv_iconst (v := 1) hx hb dX6_goesOn_20 (by decide) ?_
  refine lv_iadd hx hb dX6_goesOn_21 ?_
  refine x_put E hw kf_X6_33 kp_X6_7 0 rfl (ty := .int) (by decide +kernel) rfl rfl (by simp) (ws' := [(h 7, .inr (6, [.int (nI (fr + 1)), .int v, .int md, .int lo, .int hi, .int al, .int ov, .int (wo + 1)])), (h 2, .inr (5, [.int (nI L), .ref (h 3), .ref (h 4), .ref (h 5), .ref (h 6)])), (h 5, .inl (g.2.1, 200, .inl be)), (h 6, .inl (g.2.1, 7, .inl st))]) rfl dX6_goesOn_22 (fun H locs hw => ?_)
  refine lv_aload_n hx hb dX6_goesOn_25 rfl (lv_at hl 0 rfl) ?_
  refine lv_dup hx hb dX6_goesOn_26 rfl ?_
  refine x_get E hw kf_X6_21 0 rfl rfl dX6_goesOn_27 ?_
  refine lv_sipush (v := 1000) hx hb dX6_goesOn_30 (by decide) ?_
  refine lv_aload_n hx hb dX6_goesOn_33 rfl (lv_at hl 2 rfl) ?_
  refine x_getN E hw kf_X6_39 1 rfl rfl dX6_goesOn_34 ?_
  refine lv_iconst (v := 3) hx hb dX6_goesOn_37 (by decide) ?_
  refine x_ld (v := st 3) E hw 3 rfl 3 rfl (by omega) (by decide) rfl dX6_goesOn_38 ?_
  refine lv_isub hx hb dX6_goesOn_39 ?_
  refine lv_iadd hx hb dX6_goesOn_40 ?_
  refine x_put E hw kf_X6_21 kp_X6_3 0 rfl (ty := .int) (by decide +kernel) rfl rfl (by simp) (ws' := [(h 7, .inr (6, [.int (nI (fr + 1)), .int v, .int md, .int (lo + (1000 - st 3)), .int hi, .int al, .int ov, .int (wo + 1)])), (h 2, .inr (5, [.int (nI L), .ref (h 3), .ref (h 4), .ref (h 5), .ref (h 6)])), (h 5, .inl (g.2.1, 200, .inl be)), (h 6, .inl (g.2.1, 7, .inl st))]) rfl dX6_goesOn_41 (fun H locs hw => ?_)
  refine lv_aload_n hx hb dX6_goesOn_44 rfl (lv_at hl 0 rfl) ?_
  refine lv_dup hx hb dX6_goesOn_45 rfl ?_
  refine x_get E hw kf_X6_24 0 rfl rfl dX6_goesOn_46 ?_
  refine lv_sipush (v := 1000) hx hb dX6_goesOn_49 (by decide) ?_
  refine lv_aload_n hx hb dX6_goesOn_52 rfl (lv_at hl 2 rfl) ?_
  refine x_getN E hw kf_X6_39 1 rfl rfl dX6_goesOn_53 ?_
  refine lv_iconst (v := 3) hx hb dX6_goesOn_56 (by decide) ?_
  refine x_ld (v := st 3) E hw 3 rfl 3 rfl (by omega) (by decide) rfl dX6_goesOn_57 ?_
  refine lv_iadd hx hb dX6_goesOn_58 ?_
  refine lv_iadd hx hb dX6_goesOn_59 ?_
  refine x_put E hw kf_X6_24 kp_X6_4 0 rfl (ty := .int) (by decide +kernel) rfl rfl (by simp) (ws' := [(h 7, .inr (6, [.int (nI (fr + 1)), .int v, .int md, .int (lo + (1000 - st 3)), .int (hi + (1000 + st 3)), .int al, .int ov, .int (wo + 1)])), (h 2, .inr (5, [.int (nI L), .ref (h 3), .ref (h 4), .ref (h 5), .ref (h 6)])), (h 5, .inl (g.2.1, 200, .inl be)), (h 6, .inl (g.2.1, 7, .inl st))]) rfl dX6_goesOn_60 (fun H locs hw => ?_)
  refine lv_aload_n hx hb dX6_goesOn_63 rfl (lv_at hl 2 rfl) ?_
  refine x_getN E hw kf_X6_45 1 rfl rfl dX6_goesOn_64 ?_
  refine lv_aload_n hx hb dX6_goesOn_67 rfl (lv_at hl 0 rfl) ?_
  refine x_get E hw kf_X6_9 0 rfl rfl dX6_goesOn_68 ?_
  refine x_ld (v := be (fr + 1)) E hw 2 rfl (fr + 1) rfl (by omega) (by decide) rfl dX6_goesOn_71 ?_
  refine lv_iconst (v := 1) hx hb dX6_goesOn_72 (by decide) ?_
  refine lv_icmp_ne (tgt := 80) hx hb dX6_goesOn_73 (by decide) (fun ce => ?_) (fun ce => ?_)
  · exact xr_v hQ E hr hw dX6_goesOn_80 ⟨rfl, (by rw [if_neg ce, if_neg ce])⟩
  · refine lv_aload_n hx hb dX6_goesOn_76 rfl (lv_at hl 0 rfl) ?_
    refine x_go (ws' := [(h 7, .inr (6, [.int (nI (fr + 1)), .int v, .int md, .int (nI (1000 * (fr + 1))), .int (nI (1000 * (fr + 1))), .int al, .int ov, .int (wo + 1)])), (h 2, .inr (5, [.int (nI L), .ref (h 3), .ref (h 4), .ref (h 5), .ref (h 6)])), (h 5, .inl (g.2.1, 200, .inl be)), (h 6, .inl (g.2.1, 7, .inl st))]) (st1 := []) E hw [0] rfl (x_runV (rest := []) E hw (c_X6_knowsPlace l g h (fr + 1) v md (lo + (1000 - st 3)) (hi + (1000 + st 3)) al ov (wo + 1) ) km_X6_36 kv_X6_knowsPlace [0] rfl (by decide) 0 rfl hl.1 rfl rfl (Nat.le_of_ble_eq_true rfl) ⟨Nat.le_of_ble_eq_true rfl, Nat.le_of_ble_eq_true rfl⟩ ⟨Nat.zero_le _, Nat.zero_le _⟩ dX6_goesOn_77) rfl rfl rfl (fun H locs hw => ?_)
    exact xr_v hQ E hr hw dX6_goesOn_80 ⟨rfl, (by rw [if_pos ce, if_pos ce])⟩

set_option maxRecDepth 100000 in
set_option maxHeartbeats 4000000 in
theorem c_X4_copies (l : Launch) (g : xCfg) (h : Nat → Nat) (k : Nat → Nat) (L : Nat) (ce : Nat → Int32) (gr : Nat → Int32) (be : Nat → Int32) (st : Nat → Int32) (fr : Nat) (q : Int32) (md : Int32) (lo : Int32) (hi : Int32) (al : Int32) (ov : Int32) (wo : Int32) (L2 : Nat) (ce2 : Nat → Int32) (gr2 : Nat → Int32) (be2 : Nat → Int32) (st2 : Nat → Int32) (fr2 : Nat) (q2 : Int32) (md2 : Int32) (lo2 : Int32) (hi2 : Int32) (al2 : Int32) (ov2 : Int32) (wo2 : Int32)  : Ct l g yX4_copies cX4_copies 2 none (xR 2 39) [.ref (h 1), .ref (k 1)] [(h 1, .inr (4, [.ref (h 2), .ref (h 7)])), (h 2, .inr (5, [.int (nI L), .ref (h 3), .ref (h 4), .ref (h 5), .ref (h 6)])), (h 3, .inl (g.2.1, 200, .inl ce)), (h 4, .inl (g.2.1, 200, .inl gr)), (h 5, .inl (g.2.1, 200, .inl be)), (h 6, .inl (g.2.1, 7, .inl st)), (h 7, .inr (6, [.int (nI fr), .int q, .int md, .int lo, .int hi, .int al, .int ov, .int wo])), (k 1, .inr (4, [.ref (k 2), .ref (k 7)])), (k 2, .inr (5, [.int (nI L2), .ref (k 3), .ref (k 4), .ref (k 5), .ref (k 6)])), (k 3, .inl (g.2.1, 200, .inl ce2)), (k 4, .inl (g.2.1, 200, .inl gr2)), (k 5, .inl (g.2.1, 200, .inl be2)), (k 6, .inl (g.2.1, 7, .inl st2)), (k 7, .inr (6, [.int (nI fr2), .int q2, .int md2, .int lo2, .int hi2, .int al2, .int ov2, .int wo2]))] (is1 none [(h 1, .inr (4, [.ref (h 2), .ref (h 7)])), (h 2, .inr (5, [.int (nI L2), .ref (h 3), .ref (h 4), .ref (h 5), .ref (h 6)])), (h 3, .inl (g.2.1, 200, .inl ce2)), (h 4, .inl (g.2.1, 200, .inl gr2)), (h 5, .inl (g.2.1, 200, .inl be2)), (h 6, .inl (g.2.1, 7, .inl st2)), (h 7, .inr (6, [.int (nI fr2), .int q2, .int md2, .int lo2, .int hi2, .int al2, .int ov2, .int wo2])), (k 1, .inr (4, [.ref (k 2), .ref (k 7)])), (k 2, .inr (5, [.int (nI L2), .ref (k 3), .ref (k 4), .ref (k 5), .ref (k 6)])), (k 3, .inl (g.2.1, 200, .inl ce2)), (k 4, .inl (g.2.1, 200, .inl gr2)), (k 5, .inl (g.2.1, 200, .inl be2)), (k 6, .inl (g.2.1, 7, .inl st2)), (k 7, .inr (6, [.int (nI fr2), .int q2, .int md2, .int lo2, .int hi2, .int al2, .int ov2, .int wo2]))]) := by
  refine Ct.walk (by decide) (Nat.le_of_ble_eq_true rfl) ?_
  intro p0 e0 s0 m0 below meth c0 A0 ls Q hQ E hr hnm hw hl
  have hx := E.x
  have hb := E.b
  have hl : lv_has ls 2 [(0, .ref (h 1)), (1, .ref (k 1))] := hl
  refine lv_aload_n hx hb dX4_copies_0 rfl (lv_at hl 0 rfl) ?_
  refine x_get E hw kf_X4_10 0 rfl rfl dX4_copies_1 ?_
  refine lv_aload_n hx hb dX4_copies_4 rfl (lv_at hl 1 rfl) ?_
  refine x_get E hw kf_X4_10 7 rfl rfl dX4_copies_5 ?_
  refine x_go (ws' := [(h 1, .inr (4, [.ref (h 2), .ref (h 7)])), (h 2, .inr (5, [.int (nI L2), .ref (h 3), .ref (h 4), .ref (h 5), .ref (h 6)])), (h 3, .inl (g.2.1, 200, .inl ce2)), (h 4, .inl (g.2.1, 200, .inl gr2)), (h 5, .inl (g.2.1, 200, .inl be2)), (h 6, .inl (g.2.1, 7, .inl st2)), (h 7, .inr (6, [.int (nI fr), .int q, .int md, .int lo, .int hi, .int al, .int ov, .int wo])), (k 1, .inr (4, [.ref (k 2), .ref (k 7)])), (k 2, .inr (5, [.int (nI L2), .ref (k 3), .ref (k 4), .ref (k 5), .ref (k 6)])), (k 3, .inl (g.2.1, 200, .inl ce2)), (k 4, .inl (g.2.1, 200, .inl gr2)), (k 5, .inl (g.2.1, 200, .inl be2)), (k 6, .inl (g.2.1, 7, .inl st2)), (k 7, .inr (6, [.int (nI fr2), .int q2, .int md2, .int lo2, .int hi2, .int al2, .int ov2, .int wo2]))]) (st1 := []) E hw [1, 2, 3, 4, 5, 8, 9, 10, 11, 12] rfl (x_runVN (rest := []) E hw (c_X5_copies l g h k L ce gr be st L2 ce2 gr2 be2 st2 ) km_X4_23 kv_X5_copies [1, 2, 3, 4, 5, 8, 9, 10, 11, 12] rfl (by decide) 1 rfl hl.1 rfl rfl (Nat.le_of_ble_eq_true rfl) ⟨Nat.le_of_ble_eq_true rfl, Nat.le_of_ble_eq_true rfl⟩ ⟨Nat.zero_le _, Nat.zero_le _⟩ dX4_copies_8) rfl rfl rfl (fun H locs hw => ?_)
  refine lv_aload_n hx hb dX4_copies_11 rfl (lv_at hl 0 rfl) ?_
  refine x_get E hw kf_X4_19 0 rfl rfl dX4_copies_12 ?_
  refine lv_aload_n hx hb dX4_copies_15 rfl (lv_at hl 1 rfl) ?_
  refine x_get E hw kf_X4_19 7 rfl rfl dX4_copies_16 ?_
  refine x_go (ws' := [(h 1, .inr (4, [.ref (h 2), .ref (h 7)])), (h 2, .inr (5, [.int (nI L2), .ref (h 3), .ref (h 4), .ref (h 5), .ref (h 6)])), (h 3, .inl (g.2.1, 200, .inl ce2)), (h 4, .inl (g.2.1, 200, .inl gr2)), (h 5, .inl (g.2.1, 200, .inl be2)), (h 6, .inl (g.2.1, 7, .inl st2)), (h 7, .inr (6, [.int (nI fr2), .int q2, .int md2, .int lo2, .int hi2, .int al2, .int ov2, .int wo2])), (k 1, .inr (4, [.ref (k 2), .ref (k 7)])), (k 2, .inr (5, [.int (nI L2), .ref (k 3), .ref (k 4), .ref (k 5), .ref (k 6)])), (k 3, .inl (g.2.1, 200, .inl ce2)), (k 4, .inl (g.2.1, 200, .inl gr2)), (k 5, .inl (g.2.1, 200, .inl be2)), (k 6, .inl (g.2.1, 7, .inl st2)), (k 7, .inr (6, [.int (nI fr2), .int q2, .int md2, .int lo2, .int hi2, .int al2, .int ov2, .int wo2]))]) (st1 := []) E hw [6, 13] rfl (x_runVN (rest := []) E hw (c_X6_copies l g h k fr q md lo hi al ov wo fr2 q2 md2 lo2 hi2 al2 ov2 wo2 ) km_X4_27 kv_X6_copies [6, 13] rfl (by decide) 6 rfl hl.1 rfl rfl (Nat.le_of_ble_eq_true rfl) ⟨Nat.le_of_ble_eq_true rfl, Nat.le_of_ble_eq_true rfl⟩ ⟨Nat.zero_le _, Nat.zero_le _⟩ dX4_copies_19) rfl rfl rfl (fun H locs hw => ?_)
  exact xr_v hQ E hr hw dX4_copies_22 ⟨rfl, rfl⟩

set_option maxRecDepth 100000 in
set_option maxHeartbeats 4000000 in
theorem c_X0_leastCeiling (l : Launch) (g : xCfg) (u : Nat) (ce : Nat → Int32) (a : Nat) (z : Nat) (ha : a ≤ z) (hz : z < 200) : Ct l g yX0_leastCeiling cX0_leastCeiling 5 (some .int) (xR 0 0) [.ref u, .int (nI a), .int (nI z)] [(u, .inl (g.2.1, 200, .inl ce))] (is1 (some (.int (nI (lmi ce a (z - a))))) [(u, .inl (g.2.1, 200, .inl ce))]) := by
  refine Ct.walk (by decide) (Nat.le_of_ble_eq_true rfl) ?_
  intro p0 e0 s0 m0 below meth c0 A0 ls Q hQ E hr hnm hw hl
  have hx := E.x
  have hb := E.b
  have hl : lv_has ls 5 [(0, .ref u), (1, .int (nI a)), (2, .int (nI z))] := hl
  refine lv_iload_n hx hb dX0_leastCeiling_0 rfl (lv_at hl 1 rfl) ?_
  refine lv_istore_n (lv' := [(3, .int (nI a)), (0, .ref u), (1, .int (nI a)), (2, .int (nI z))]) hx hb dX0_leastCeiling_1 rfl hl (by decide) rfl (fun ls hl => ?_)
  refine lv_iload_n hx hb dX0_leastCeiling_2 rfl (lv_at hl 2 rfl) ?_
  refine lv_iconst (v := 1) hx hb dX0_leastCeiling_3 (by decide) ?_
  refine xn_add hx hb a 1 rfl rfl dX0_leastCeiling_4 ?_
  refine lv_istore (lv' := [(4, .int (nI (a + 1))), (3, .int (nI a)), (0, .ref u), (1, .int (nI a)), (2, .int (nI z))]) hx hb dX0_leastCeiling_5 hl (by decide) rfl (fun ls hl => ?_)
  have lp_7 : ∀ (fuel : Nat) (d : Nat), z - (a + d) < fuel → a + d ≤ z → ∀ (H : Heap) (locs : List Loc) (ls : Array Slot), xW g A0 s0 [(u, .inl (g.2.1, 200, .inl ce))] H locs → lv_has ls 5 [(4, .int (nI (a + d + 1))), (3, .int (nI (lmi ce a d))), (0, .ref u), (2, .int (nI z))] → W p0 l e0 (xR 0 0) s0 m0 [.ref u, .int (nI a), .int (nI z)].toArray below meth c0 H locs 0 0 Q (F0 m0 7 ls []) := by
    intro fuel
    induction fuel with
    | zero => intro d hm; exact absurd hm (Nat.not_lt_zero _)
    | succ fuel ih =>
      intro d hm h1 H locs ls hw hl
      refine lv_iload hx hb dX0_leastCeiling_7 (lv_at hl 0 rfl) ?_
      refine lv_iload_n hx hb dX0_leastCeiling_9 rfl (lv_at hl 3 rfl) ?_
      refine xn_gt (tgt := 32) hx hb (a + d + 1) z rfl rfl (by omega) (by omega) dX0_leastCeiling_10 (by decide) (fun c_1 => ?_) (fun c_1 => ?_)
      · obtain rfl : d = z - a := by omega
        refine lv_iload_n hx hb dX0_leastCeiling_32 rfl (lv_at hl 1 rfl) ?_
        exact xr_i hQ E hr hw dX0_leastCeiling_33 ⟨rfl, rfl⟩
      · refine lv_aload_n hx hb dX0_leastCeiling_13 rfl (lv_at hl 2 rfl) ?_
        refine lv_iload hx hb dX0_leastCeiling_14 (lv_at hl 0 rfl) ?_
        refine x_ld (v := ce (a + d + 1)) E hw 0 rfl (a + d + 1) rfl (by omega) (by decide) rfl dX0_leastCeiling_16 ?_
        refine lv_aload_n hx hb dX0_leastCeiling_17 rfl (lv_at hl 2 rfl) ?_
        refine lv_iload_n hx hb dX0_leastCeiling_18 rfl (lv_at hl 1 rfl) ?_
        refine x_ld (v := ce (lmi ce a d)) E hw 0 rfl (lmi ce a d) rfl (by have := lmi_le ce a d; omega) (by decide) rfl dX0_leastCeiling_19 ?_
        refine lv_icmp_gt (tgt := 26) hx hb dX0_leastCeiling_20 (by decide) (fun cn => ?_) (fun cn => ?_)
        · refine lv_iinc (v := nI (a + d + 2)) (lv' := [(4, .int (nI (a + d + 2))), (3, .int (nI (lmi ce a d))), (0, .ref u), (2, .int (nI z))]) hx hb dX0_leastCeiling_26 hl (k := 0) rfl (nI_1 _) (by decide) rfl (fun ls hl => ?_)
          refine lv_goto (tgt := 7) hx hb dX0_leastCeiling_29 (by decide) ?_
          have hl : lv_has ls 5 [(4, .int (nI (a + d + 2))), (3, .int (nI (lmi ce a d))), (0, .ref u), (2, .int (nI z))] := lv_sub hl [0, 1, 2, 3] rfl
          have hl : lv_has ls 5 [(4, .int (nI (a + (d + 1) + 1))), (3, .int (nI (lmi ce a (d + 1)))), (0, .ref u), (2, .int (nI z))] := lv_re hl (by rw [show (nI (a + d + 2) : Int32) = nI (a + (d + 1) + 1) from congrArg nI (by omega), show (nI (lmi ce a d) : Int32) = nI (lmi ce a (d + 1)) from congrArg nI ((lmi_no cn).symm)])
          have hw : xW g A0 s0 [(u, .inl (g.2.1, 200, .inl ce))] _ _ := hw
          exact ih (d + 1) (by omega) (by omega) _ _ _ hw hl
        · refine lv_iload hx hb dX0_leastCeiling_23 (lv_at hl 0 rfl) ?_
          refine lv_istore_n (lv' := [(3, .int (nI (a + d + 1))), (4, .int (nI (a + d + 1))), (0, .ref u), (2, .int (nI z))]) hx hb dX0_leastCeiling_25 rfl hl (by decide) rfl (fun ls hl => ?_)
          refine lv_iinc (v := nI (a + d + 2)) (lv' := [(4, .int (nI (a + d + 2))), (3, .int (nI (a + d + 1))), (0, .ref u), (2, .int (nI z))]) hx hb dX0_leastCeiling_26 hl (k := 1) rfl (nI_1 _) (by decide) rfl (fun ls hl => ?_)
          refine lv_goto (tgt := 7) hx hb dX0_leastCeiling_29 (by decide) ?_
          have hl : lv_has ls 5 [(4, .int (nI (a + d + 2))), (3, .int (nI (a + d + 1))), (0, .ref u), (2, .int (nI z))] := lv_sub hl [0, 1, 2, 3] rfl
          have hl : lv_has ls 5 [(4, .int (nI (a + (d + 1) + 1))), (3, .int (nI (lmi ce a (d + 1)))), (0, .ref u), (2, .int (nI z))] := lv_re hl (by rw [show (nI (a + d + 2) : Int32) = nI (a + (d + 1) + 1) from congrArg nI (by omega), show (nI (a + d + 1) : Int32) = nI (lmi ce a (d + 1)) from congrArg nI ((lmi_yes cn).symm)])
          have hw : xW g A0 s0 [(u, .inl (g.2.1, 200, .inl ce))] _ _ := hw
          exact ih (d + 1) (by omega) (by omega) _ _ _ hw hl
  have hl : lv_has ls 5 [(4, .int (nI (a + 1))), (3, .int (nI a)), (0, .ref u), (2, .int (nI z))] := lv_sub hl [0, 1, 2, 4] rfl
  have hl : lv_has ls 5 [(4, .int (nI (a + 0 + 1))), (3, .int (nI (lmi ce a 0))), (0, .ref u), (2, .int (nI z))] := lv_re hl (by rw [show (nI a : Int32) = nI (lmi ce a 0) from congrArg nI rfl, show (nI (a + 1) : Int32) = nI (a + 0 + 1) from congrArg nI rfl])
  have hw : xW g A0 s0 [(u, .inl (g.2.1, 200, .inl ce))] _ _ := hw
  exact lp_7 ((z - (a + 0)) + 1) 0 (Nat.lt_succ_self _) (by omega) _ _ _ hw hl

set_option maxRecDepth 100000 in
set_option maxHeartbeats 4000000 in
theorem c_X0_drawsCeilings (l : Launch) (g : xCfg) (h : Nat → Nat) (fo : Nat → Int32) (L : Nat) (ce : Nat → Int32) (st : Nat → Int32) (len : Nat) (hL : L ≤ 200) (hlen : st 2 = nI len) (hl1 : 1 ≤ len) (hl2 : len ≤ 30) : Ct l g yX0_drawsCeilings cX0_drawsCeilings 5 none (xR 1 24) [.ref (h 8), .ref (h 2)] [(h 8, .inr (0, [.ref (h 9), .ref (h 10)])), (h 9, .inl (g.2.1, 200, .inl fo)), (h 2, .inr (5, [.int (nI L), .ref (h 3), .ref (h 4), .ref (h 5), .ref (h 6)])), (h 3, .inl (g.2.1, 200, .inl ce)), (h 6, .inl (g.2.1, 7, .inl st))] (is1 none [(h 8, .inr (0, [.ref (h 9), .ref (h 10)])), (h 9, .inl (g.2.1, 200, .inl (dcF ce len L fo))), (h 2, .inr (5, [.int (nI L), .ref (h 3), .ref (h 4), .ref (h 5), .ref (h 6)])), (h 3, .inl (g.2.1, 200, .inl ce)), (h 6, .inl (g.2.1, 7, .inl st))]) := by
  refine Ct.walk (by decide) (Nat.le_of_ble_eq_true rfl) ?_
  intro p0 e0 s0 m0 below meth c0 A0 ls Q hQ E hr hnm hw hl
  have hx := E.x
  have hb := E.b
  have hl : lv_has ls 5 [(0, .ref (h 8)), (1, .ref (h 2))] := hl
  refine lv_iconst (v := 0) hx hb dX0_drawsCeilings_0 (by decide) ?_
  refine lv_istore_n (lv' := [(2, .int 0), (0, .ref (h 8)), (1, .ref (h 2))]) hx hb dX0_drawsCeilings_1 rfl hl (by decide) rfl (fun ls hl => ?_)
  refine lv_iconst (v := 0) hx hb dX0_drawsCeilings_2 (by decide) ?_
  refine lv_istore_n (lv' := [(3, .int 0), (2, .int 0), (0, .ref (h 8)), (1, .ref (h 2))]) hx hb dX0_drawsCeilings_3 rfl hl (by decide) rfl (fun ls hl => ?_)
  have lp_4 : ∀ (fuel : Nat) (x : Nat), L - x < fuel → x ≤ L → ∀ (H : Heap) (locs : List Loc) (ls : Array Slot), xW g A0 s0 [(h 8, .inr (0, [.ref (h 9), .ref (h 10)])), (h 9, .inl (g.2.1, 200, .inl (dcF ce len x fo))), (h 2, .inr (5, [.int (nI L), .ref (h 3), .ref (h 4), .ref (h 5), .ref (h 6)])), (h 3, .inl (g.2.1, 200, .inl ce)), (h 6, .inl (g.2.1, 7, .inl st))] H locs → lv_has ls 5 [(3, .int (nI x)), (2, .int (nI (dcI ce len x))), (0, .ref (h 8)), (1, .ref (h 2))] → W p0 l e0 (xR 1 24) s0 m0 [.ref (h 8), .ref (h 2)].toArray below meth c0 H locs 0 0 Q (F0 m0 4 ls []) := by
    intro fuel
    induction fuel with
    | zero => intro x hm; exact absurd hm (Nat.not_lt_zero _)
    | succ fuel ih =>
      intro x hm h1 H locs ls hw hl
      refine lv_iload_n hx hb dX0_drawsCeilings_4 rfl (lv_at hl 0 rfl) ?_
      refine lv_aload_n hx hb dX0_drawsCeilings_5 rfl (lv_at hl 3 rfl) ?_
      refine x_getN E hw kf_X0_24 2 rfl rfl dX0_drawsCeilings_6 ?_
      refine xn_ge (tgt := 83) hx hb x L rfl rfl (by omega) (by omega) dX0_drawsCeilings_9 (by decide) (fun c_1 => ?_) (fun c_1 => ?_)
      · obtain rfl : x = L := by omega
        exact xr_v hQ E hr hw dX0_drawsCeilings_83 ⟨rfl, rfl⟩
      · refine lv_iconst (v := 0) hx hb dX0_drawsCeilings_12 (by decide) ?_
        refine lv_iload_n hx hb dX0_drawsCeilings_13 rfl (lv_at hl 0 rfl) ?_
        refine lv_aload_n hx hb dX0_drawsCeilings_14 rfl (lv_at hl 3 rfl) ?_
        refine x_getN E hw kf_X0_38 2 rfl rfl dX0_drawsCeilings_15 ?_
        refine lv_iconst (v := 2) hx hb dX0_drawsCeilings_18 (by decide) ?_
        refine x_ld (v := nI len) E hw 4 rfl 2 rfl (by omega) (by decide) hlen dX0_drawsCeilings_19 ?_
        refine lv_isub hx hb dX0_drawsCeilings_20 ?_
        refine lv_iconst (v := 1) hx hb dX0_drawsCeilings_21 (by decide) ?_
        refine lv_iadd hx hb dX0_drawsCeilings_22 ?_
        refine x_max E km_X0_41 hl.1 (Nat.le_of_ble_eq_true rfl) (Nat.le_of_ble_eq_true rfl) ⟨Nat.zero_le _, Nat.zero_le _⟩ dX0_drawsCeilings_23 ?_
        refine x_top (v' := .int (nI (x + 1 - len))) (congrArg Value.int (tailN (by omega) (by omega))) ?_
        refine lv_istore (lv' := [(4, .int (nI (x + 1 - len))), (3, .int (nI x)), (2, .int (nI (dcI ce len x))), (0, .ref (h 8)), (1, .ref (h 2))]) hx hb dX0_drawsCeilings_26 hl (by decide) rfl (fun ls hl => ?_)
        refine lv_iload_n hx hb dX0_drawsCeilings_28 rfl (lv_at hl 2 rfl) ?_
        refine lv_iload hx hb dX0_drawsCeilings_29 (lv_at hl 0 rfl) ?_
        refine xn_ge (tgt := 48) hx hb (dcI ce len x) (x + 1 - len) rfl rfl (by have := dcI_le (ce := ce) hl1 x; omega) (by omega) dX0_drawsCeilings_31 (by decide) (fun ct => ?_) (fun ct => ?_)
        · refine lv_aload_n hx hb dX0_drawsCeilings_48 rfl (lv_at hl 4 rfl) ?_
          refine x_getN E hw kf_X0_44 2 rfl rfl dX0_drawsCeilings_49 ?_
          refine lv_iload_n hx hb dX0_drawsCeilings_52 rfl (lv_at hl 1 rfl) ?_
          refine x_ld (v := ce x) E hw 3 rfl x rfl (by omega) (by decide) rfl dX0_drawsCeilings_53 ?_
          refine lv_aload_n hx hb dX0_drawsCeilings_54 rfl (lv_at hl 4 rfl) ?_
          refine x_getN E hw kf_X0_44 2 rfl rfl dX0_drawsCeilings_55 ?_
          refine lv_iload_n hx hb dX0_drawsCeilings_58 rfl (lv_at hl 2 rfl) ?_
          refine x_ld (v := ce (dcI ce len x)) E hw 3 rfl (dcI ce len x) rfl (by have := dcI_le (ce := ce) hl1 x; omega) (by decide) rfl dX0_drawsCeilings_59 ?_
          refine lv_icmp_gt (tgt := 65) hx hb dX0_drawsCeilings_60 (by decide) (fun cn => ?_) (fun cn => ?_)
          · refine lv_aload_n hx hb dX0_drawsCeilings_65 rfl (lv_at hl 3 rfl) ?_
            refine x_get E hw kf_X0_11 0 rfl rfl dX0_drawsCeilings_66 ?_
            refine lv_iload_n hx hb dX0_drawsCeilings_69 rfl (lv_at hl 1 rfl) ?_
            refine lv_aload_n hx hb dX0_drawsCeilings_70 rfl (lv_at hl 4 rfl) ?_
            refine x_getN E hw kf_X0_44 2 rfl rfl dX0_drawsCeilings_71 ?_
            refine lv_iload_n hx hb dX0_drawsCeilings_74 rfl (lv_at hl 2 rfl) ?_
            refine x_ld (v := ce (dcI ce len x)) E hw 3 rfl (dcI ce len x) rfl (by have := dcI_le (ce := ce) hl1 x; have := lmi_le ce (x + 1 - len) (x - (x + 1 - len)); omega) (by decide) rfl dX0_drawsCeilings_75 ?_
            refine x_ist E hw 1 rfl x rfl (by omega) (by decide) (ws' := [(h 8, .inr (0, [.ref (h 9), .ref (h 10)])), (h 9, .inl (g.2.1, 200, .inl (upd (dcF ce len x fo) x (ce (dcI ce len x))))), (h 2, .inr (5, [.int (nI L), .ref (h 3), .ref (h 4), .ref (h 5), .ref (h 6)])), (h 3, .inl (g.2.1, 200, .inl ce)), (h 6, .inl (g.2.1, 7, .inl st))]) rfl dX0_drawsCeilings_76 (fun H locs hw => ?_)
            refine lv_iinc (v := nI (x + 1)) (lv' := [(3, .int (nI (x + 1))), (4, .int (nI (x + 1 - len))), (2, .int (nI (dcI ce len x))), (0, .ref (h 8)), (1, .ref (h 2))]) hx hb dX0_drawsCeilings_77 hl (k := 1) rfl (nI_1 _) (by decide) rfl (fun ls hl => ?_)
            refine lv_goto (tgt := 4) hx hb dX0_drawsCeilings_80 (by decide) ?_
            have hw := hw.arr (f' := (dcF ce len (x + 1) fo)) (ws' := [(h 8, .inr (0, [.ref (h 9), .ref (h 10)])), (h 9, .inl (g.2.1, 200, .inl (dcF ce len (x + 1) fo))), (h 2, .inr (5, [.int (nI L), .ref (h 3), .ref (h 4), .ref (h 5), .ref (h 6)])), (h 3, .inl (g.2.1, 200, .inl ce)), (h 6, .inl (g.2.1, 7, .inl st))]) 1 rfl (fun j _ => dcF_st ce len x fo _ (dcI_b ct cn) j) rfl
            have hl : lv_has ls 5 [(3, .int (nI (x + 1))), (2, .int (nI (dcI ce len x))), (0, .ref (h 8)), (1, .ref (h 2))] := lv_sub hl [0, 2, 3, 4] rfl
            have hl : lv_has ls 5 [(3, .int (nI (x + 1))), (2, .int (nI (dcI ce len (x + 1)))), (0, .ref (h 8)), (1, .ref (h 2))] := lv_re hl (by rw [show (nI (dcI ce len x) : Int32) = nI (dcI ce len (x + 1)) from congrArg nI ((dcI_b ct cn).symm)])
            have hw : xW g A0 s0 [(h 8, .inr (0, [.ref (h 9), .ref (h 10)])), (h 9, .inl (g.2.1, 200, .inl (dcF ce len (x + 1) fo))), (h 2, .inr (5, [.int (nI L), .ref (h 3), .ref (h 4), .ref (h 5), .ref (h 6)])), (h 3, .inl (g.2.1, 200, .inl ce)), (h 6, .inl (g.2.1, 7, .inl st))] _ _ := hw
            exact ih (x + 1) (by omega) (by omega) _ _ _ hw hl
          · refine lv_iload_n hx hb dX0_drawsCeilings_63 rfl (lv_at hl 1 rfl) ?_
            refine lv_istore_n (lv' := [(2, .int (nI x)), (4, .int (nI (x + 1 - len))), (3, .int (nI x)), (0, .ref (h 8)), (1, .ref (h 2))]) hx hb dX0_drawsCeilings_64 rfl hl (by decide) rfl (fun ls hl => ?_)
            refine lv_aload_n hx hb dX0_drawsCeilings_65 rfl (lv_at hl 3 rfl) ?_
            refine x_get E hw kf_X0_11 0 rfl rfl dX0_drawsCeilings_66 ?_
            refine lv_iload_n hx hb dX0_drawsCeilings_69 rfl (lv_at hl 2 rfl) ?_
            refine lv_aload_n hx hb dX0_drawsCeilings_70 rfl (lv_at hl 4 rfl) ?_
            refine x_getN E hw kf_X0_44 2 rfl rfl dX0_drawsCeilings_71 ?_
            refine lv_iload_n hx hb dX0_drawsCeilings_74 rfl (lv_at hl 0 rfl) ?_
            refine x_ld (v := ce x) E hw 3 rfl x rfl (by have := dcI_le (ce := ce) hl1 x; have := lmi_le ce (x + 1 - len) (x - (x + 1 - len)); omega) (by decide) rfl dX0_drawsCeilings_75 ?_
            refine x_ist E hw 1 rfl x rfl (by omega) (by decide) (ws' := [(h 8, .inr (0, [.ref (h 9), .ref (h 10)])), (h 9, .inl (g.2.1, 200, .inl (upd (dcF ce len x fo) x (ce x)))), (h 2, .inr (5, [.int (nI L), .ref (h 3), .ref (h 4), .ref (h 5), .ref (h 6)])), (h 3, .inl (g.2.1, 200, .inl ce)), (h 6, .inl (g.2.1, 7, .inl st))]) rfl dX0_drawsCeilings_76 (fun H locs hw => ?_)
            refine lv_iinc (v := nI (x + 1)) (lv' := [(3, .int (nI (x + 1))), (2, .int (nI x)), (4, .int (nI (x + 1 - len))), (0, .ref (h 8)), (1, .ref (h 2))]) hx hb dX0_drawsCeilings_77 hl (k := 2) rfl (nI_1 _) (by decide) rfl (fun ls hl => ?_)
            refine lv_goto (tgt := 4) hx hb dX0_drawsCeilings_80 (by decide) ?_
            have hw := hw.arr (f' := (dcF ce len (x + 1) fo)) (ws' := [(h 8, .inr (0, [.ref (h 9), .ref (h 10)])), (h 9, .inl (g.2.1, 200, .inl (dcF ce len (x + 1) fo))), (h 2, .inr (5, [.int (nI L), .ref (h 3), .ref (h 4), .ref (h 5), .ref (h 6)])), (h 3, .inl (g.2.1, 200, .inl ce)), (h 6, .inl (g.2.1, 7, .inl st))]) 1 rfl (fun j _ => dcF_st ce len x fo _ (dcI_c ct cn) j) rfl
            have hl : lv_has ls 5 [(3, .int (nI (x + 1))), (2, .int (nI x)), (0, .ref (h 8)), (1, .ref (h 2))] := lv_sub hl [0, 1, 3, 4] rfl
            have hl : lv_has ls 5 [(3, .int (nI (x + 1))), (2, .int (nI (dcI ce len (x + 1)))), (0, .ref (h 8)), (1, .ref (h 2))] := lv_re hl (by rw [show (nI x : Int32) = nI (dcI ce len (x + 1)) from congrArg nI ((dcI_c ct cn).symm)])
            have hw : xW g A0 s0 [(h 8, .inr (0, [.ref (h 9), .ref (h 10)])), (h 9, .inl (g.2.1, 200, .inl (dcF ce len (x + 1) fo))), (h 2, .inr (5, [.int (nI L), .ref (h 3), .ref (h 4), .ref (h 5), .ref (h 6)])), (h 3, .inl (g.2.1, 200, .inl ce)), (h 6, .inl (g.2.1, 7, .inl st))] _ _ := hw
            exact ih (x + 1) (by omega) (by omega) _ _ _ hw hl
        · refine lv_aload_n hx hb dX0_drawsCeilings_34 rfl (lv_at hl 4 rfl) ?_
          refine x_getN E hw kf_X0_44 2 rfl rfl dX0_drawsCeilings_35 ?_
          refine lv_iload hx hb dX0_drawsCeilings_38 (lv_at hl 0 rfl) ?_
          refine lv_iload_n hx hb dX0_drawsCeilings_40 rfl (lv_at hl 1 rfl) ?_
          refine x_go (ws' := [(h 8, .inr (0, [.ref (h 9), .ref (h 10)])), (h 9, .inl (g.2.1, 200, .inl (dcF ce len x fo))), (h 2, .inr (5, [.int (nI L), .ref (h 3), .ref (h 4), .ref (h 5), .ref (h 6)])), (h 3, .inl (g.2.1, 200, .inl ce)), (h 6, .inl (g.2.1, 7, .inl st))]) (st1 := [.int (nI (lmi ce (x + 1 - len) (x - (x + 1 - len))))]) E hw [3] rfl (x_runS (rest := []) E hw (c_X0_leastCeiling l g (h 3) ce (x + 1 - len) x (by omega) (by omega)) km_X0_47 ks_X0_leastCeiling [3] rfl (by decide) hl.1 rfl rfl (Nat.le_of_ble_eq_true rfl) ⟨Nat.le_of_ble_eq_true rfl, Nat.le_of_ble_eq_true rfl⟩ ⟨Nat.zero_le _, Nat.zero_le _⟩ dX0_drawsCeilings_41) rfl rfl rfl (fun H locs hw => ?_)
          refine lv_istore_n (lv' := [(2, .int (nI (lmi ce (x + 1 - len) (x - (x + 1 - len))))), (4, .int (nI (x + 1 - len))), (3, .int (nI x)), (0, .ref (h 8)), (1, .ref (h 2))]) hx hb dX0_drawsCeilings_44 rfl hl (by decide) rfl (fun ls hl => ?_)
          refine lv_goto (tgt := 65) hx hb dX0_drawsCeilings_45 (by decide) ?_
          refine lv_aload_n hx hb dX0_drawsCeilings_65 rfl (lv_at hl 3 rfl) ?_
          refine x_get E hw kf_X0_11 0 rfl rfl dX0_drawsCeilings_66 ?_
          refine lv_iload_n hx hb dX0_drawsCeilings_69 rfl (lv_at hl 2 rfl) ?_
          refine lv_aload_n hx hb dX0_drawsCeilings_70 rfl (lv_at hl 4 rfl) ?_
          refine x_getN E hw kf_X0_44 2 rfl rfl dX0_drawsCeilings_71 ?_
          refine lv_iload_n hx hb dX0_drawsCeilings_74 rfl (lv_at hl 0 rfl) ?_
          refine x_ld (v := ce (lmi ce (x + 1 - len) (x - (x + 1 - len)))) E hw 3 rfl (lmi ce (x + 1 - len) (x - (x + 1 - len))) rfl (by have := dcI_le (ce := ce) hl1 x; have := lmi_le ce (x + 1 - len) (x - (x + 1 - len)); omega) (by decide) rfl dX0_drawsCeilings_75 ?_
          refine x_ist E hw 1 rfl x rfl (by omega) (by decide) (ws' := [(h 8, .inr (0, [.ref (h 9), .ref (h 10)])), (h 9, .inl (g.2.1, 200, .inl (upd (dcF ce len x fo) x (ce (lmi ce (x + 1 - len) (x - (x + 1 - len))))))), (h 2, .inr (5, [.int (nI L), .ref (h 3), .ref (h 4), .ref (h 5), .ref (h 6)])), (h 3, .inl (g.2.1, 200, .inl ce)), (h 6, .inl (g.2.1, 7, .inl st))]) rfl dX0_drawsCeilings_76 (fun H locs hw => ?_)
          refine lv_iinc (v := nI (x + 1)) (lv' := [(3, .int (nI (x + 1))), (2, .int (nI (lmi ce (x + 1 - len) (x - (x + 1 - len))))), (4, .int (nI (x + 1 - len))), (0, .ref (h 8)), (1, .ref (h 2))]) hx hb dX0_drawsCeilings_77 hl (k := 2) rfl (nI_1 _) (by decide) rfl (fun ls hl => ?_)
          refine lv_goto (tgt := 4) hx hb dX0_drawsCeilings_80 (by decide) ?_
          have hw := hw.arr (f' := (dcF ce len (x + 1) fo)) (ws' := [(h 8, .inr (0, [.ref (h 9), .ref (h 10)])), (h 9, .inl (g.2.1, 200, .inl (dcF ce len (x + 1) fo))), (h 2, .inr (5, [.int (nI L), .ref (h 3), .ref (h 4), .ref (h 5), .ref (h 6)])), (h 3, .inl (g.2.1, 200, .inl ce)), (h 6, .inl (g.2.1, 7, .inl st))]) 1 rfl (fun j _ => dcF_st ce len x fo _ (dcI_a ct) j) rfl
          have hl : lv_has ls 5 [(3, .int (nI (x + 1))), (2, .int (nI (lmi ce (x + 1 - len) (x - (x + 1 - len))))), (0, .ref (h 8)), (1, .ref (h 2))] := lv_sub hl [0, 1, 3, 4] rfl
          have hl : lv_has ls 5 [(3, .int (nI (x + 1))), (2, .int (nI (dcI ce len (x + 1)))), (0, .ref (h 8)), (1, .ref (h 2))] := lv_re hl (by rw [show (nI (lmi ce (x + 1 - len) (x - (x + 1 - len))) : Int32) = nI (dcI ce len (x + 1)) from congrArg nI ((dcI_a ct).symm)])
          have hw : xW g A0 s0 [(h 8, .inr (0, [.ref (h 9), .ref (h 10)])), (h 9, .inl (g.2.1, 200, .inl (dcF ce len (x + 1) fo))), (h 2, .inr (5, [.int (nI L), .ref (h 3), .ref (h 4), .ref (h 5), .ref (h 6)])), (h 3, .inl (g.2.1, 200, .inl ce)), (h 6, .inl (g.2.1, 7, .inl st))] _ _ := hw
          exact ih (x + 1) (by omega) (by omega) _ _ _ hw hl
  have hw := hw.arr (f' := (dcF ce len 0 fo)) (ws' := [(h 8, .inr (0, [.ref (h 9), .ref (h 10)])), (h 9, .inl (g.2.1, 200, .inl (dcF ce len 0 fo))), (h 2, .inr (5, [.int (nI L), .ref (h 3), .ref (h 4), .ref (h 5), .ref (h 6)])), (h 3, .inl (g.2.1, 200, .inl ce)), (h 6, .inl (g.2.1, 7, .inl st))]) 1 rfl (fun j _ => (dcF_nil ce len fo j).symm) rfl
  have hl : lv_has ls 5 [(3, .int 0), (2, .int 0), (0, .ref (h 8)), (1, .ref (h 2))] := lv_sub hl [0, 1, 2, 3] rfl
  have hl : lv_has ls 5 [(3, .int 0), (2, .int (nI (dcI ce len 0))), (0, .ref (h 8)), (1, .ref (h 2))] := lv_re hl (by rw [show (0 : Int32) = nI (dcI ce len 0) from congrArg nI rfl])
  have hw : xW g A0 s0 [(h 8, .inr (0, [.ref (h 9), .ref (h 10)])), (h 9, .inl (g.2.1, 200, .inl (dcF ce len 0 fo))), (h 2, .inr (5, [.int (nI L), .ref (h 3), .ref (h 4), .ref (h 5), .ref (h 6)])), (h 3, .inl (g.2.1, 200, .inl ce)), (h 6, .inl (g.2.1, 7, .inl st))] _ _ := hw
  exact lp_4 ((L - 0) + 1) 0 (Nat.lt_succ_self _) (by omega) _ _ _ hw hl

set_option maxRecDepth 100000 in
set_option maxHeartbeats 4000000 in
theorem c_X0_draws (l : Launch) (g : xCfg) (h : Nat → Nat) (fo : Nat → Int32) (sq : Nat → Int32) (L : Nat) (ce : Nat → Int32) (gr : Nat → Int32) (st : Nat → Int32) (len : Nat) (hL : L ≤ 200) (hlen : st 2 = nI len) (hl1 : 1 ≤ len) (hl2 : len ≤ 30) : Ct l g yX0_draws cX0_draws 4 none (xR 2 48) [.ref (h 8), .ref (h 2)] [(h 8, .inr (0, [.ref (h 9), .ref (h 10)])), (h 9, .inl (g.2.1, 200, .inl fo)), (h 10, .inl (g.2.1, 200, .inl sq)), (h 2, .inr (5, [.int (nI L), .ref (h 3), .ref (h 4), .ref (h 5), .ref (h 6)])), (h 3, .inl (g.2.1, 200, .inl ce)), (h 4, .inl (g.2.1, 200, .inl gr)), (h 6, .inl (g.2.1, 7, .inl st))] (is1 none [(h 8, .inr (0, [.ref (h 9), .ref (h 10)])), (h 9, .inl (g.2.1, 200, .inl (dcF ce len L fo))), (h 10, .inl (g.2.1, 200, .inl (lwS (dcF ce len L fo) gr (st 0) L 0 sq))), (h 2, .inr (5, [.int (nI L), .ref (h 3), .ref (h 4), .ref (h 5), .ref (h 6)])), (h 3, .inl (g.2.1, 200, .inl ce)), (h 4, .inl (g.2.1, 200, .inl gr)), (h 6, .inl (g.2.1, 7, .inl st))]) := by
  refine Ct.walk (by decide) (Nat.le_of_ble_eq_true rfl) ?_
  intro p0 e0 s0 m0 below meth c0 A0 ls Q hQ E hr hnm hw hl
  have hx := E.x
  have hb := E.b
  have hl : lv_has ls 4 [(0, .ref (h 8)), (1, .ref (h 2))] := hl
  refine lv_aload_n hx hb dX0_draws_0 rfl (lv_at hl 0 rfl) ?_
  refine lv_aload_n hx hb dX0_draws_1 rfl (lv_at hl 1 rfl) ?_
  refine x_go (ws' := [(h 8, .inr (0, [.ref (h 9), .ref (h 10)])), (h 9, .inl (g.2.1, 200, .inl (dcF ce len L fo))), (h 10, .inl (g.2.1, 200, .inl sq)), (h 2, .inr (5, [.int (nI L), .ref (h 3), .ref (h 4), .ref (h 5), .ref (h 6)])), (h 3, .inl (g.2.1, 200, .inl ce)), (h 4, .inl (g.2.1, 200, .inl gr)), (h 6, .inl (g.2.1, 7, .inl st))]) (st1 := []) E hw [0, 1, 3, 4, 6] rfl (x_runV (rest := []) E hw (c_X0_drawsCeilings l g h fo L ce st len (by omega) hlen (by omega) (by omega)) km_X0_20 kv_X0_drawsCeilings [0, 1, 3, 4, 6] rfl (by decide) 0 rfl hl.1 rfl rfl (Nat.le_of_ble_eq_true rfl) ⟨Nat.le_of_ble_eq_true rfl, Nat.le_of_ble_eq_true rfl⟩ ⟨Nat.zero_le _, Nat.zero_le _⟩ dX0_draws_2) rfl rfl rfl (fun H locs hw => ?_)
  refine lv_iconst (v := 0) hx hb dX0_draws_5 (by decide) ?_
  refine lv_istore_n (lv' := [(2, .int 0), (0, .ref (h 8)), (1, .ref (h 2))]) hx hb dX0_draws_6 rfl hl (by decide) rfl (fun ls hl => ?_)
  refine lv_aload_n hx hb dX0_draws_7 rfl (lv_at hl 2 rfl) ?_
  refine x_getN E hw kf_X0_24 3 rfl rfl dX0_draws_8 ?_
  refine lv_iconst (v := 1) hx hb dX0_draws_11 (by decide) ?_
  refine lv_isub hx hb dX0_draws_12 ?_
  refine lv_istore_n (lv' := [(3, .int (nI L - 1)), (2, .int 0), (0, .ref (h 8)), (1, .ref (h 2))]) hx hb dX0_draws_13 rfl hl (by decide) rfl (fun ls hl => ?_)
  have lp_14 : ∀ (fuel : Nat) (k : Nat), k < fuel → k ≤ L → ∀ (H : Heap) (locs : List Loc) (ls : Array Slot), xW g A0 s0 [(h 8, .inr (0, [.ref (h 9), .ref (h 10)])), (h 9, .inl (g.2.1, 200, .inl (dcF ce len L fo))), (h 10, .inl (g.2.1, 200, .inl (lwS (dcF ce len L fo) gr (st 0) L k sq))), (h 2, .inr (5, [.int (nI L), .ref (h 3), .ref (h 4), .ref (h 5), .ref (h 6)])), (h 3, .inl (g.2.1, 200, .inl ce)), (h 4, .inl (g.2.1, 200, .inl gr)), (h 6, .inl (g.2.1, 7, .inl st))] H locs → lv_has ls 4 [(3, .int (nI k - 1)), (2, .int (lwD (dcF ce len L fo) gr (st 0) L (L - k))), (0, .ref (h 8)), (1, .ref (h 2))] → W p0 l e0 (xR 2 48) s0 m0 [.ref (h 8), .ref (h 2)].toArray below meth c0 H locs 0 0 Q (F0 m0 14 ls []) := by
    intro fuel
    induction fuel with
    | zero => intro k hm; exact absurd hm (Nat.not_lt_zero _)
    | succ fuel ih =>
      intro k hm h1 H locs ls hw hl
      refine lv_iload_n hx hb dX0_draws_14 rfl (lv_at hl 0 rfl) ?_
      refine xp_lt (tgt := 55) hx hb k (by omega) dX0_draws_15 (by decide) (fun c_1 => ?_) (fun c_1 => ?_)
      · obtain rfl : k = 0 := by omega
        exact xr_v hQ E hr hw dX0_draws_55 ⟨rfl, rfl⟩
      · obtain ⟨j, rfl⟩ : ∃ j, k = j + 1 := ⟨k - 1, by omega⟩
        have hl : lv_has ls 4 [(3, .int (nI j)), (2, .int (lwD (dcF ce len L fo) gr (st 0) L (L - (j + 1)))), (0, .ref (h 8)), (1, .ref (h 2))] := lv_re hl (by rw [show (nI (j + 1) - 1 : Int32) = nI j from nI_pred j])
        refine lv_aload_n hx hb dX0_draws_18 rfl (lv_at hl 2 rfl) ?_
        refine x_get E hw kf_X0_11 0 rfl rfl dX0_draws_19 ?_
        refine lv_iload_n hx hb dX0_draws_22 rfl (lv_at hl 0 rfl) ?_
        refine x_ld (v := (dcF ce len L fo) j) E hw 1 rfl j rfl (by omega) (by decide) rfl dX0_draws_23 ?_
        refine lv_aload_n hx hb dX0_draws_24 rfl (lv_at hl 2 rfl) ?_
        refine x_get E hw kf_X0_11 0 rfl rfl dX0_draws_25 ?_
        refine lv_iload_n hx hb dX0_draws_28 rfl (lv_at hl 0 rfl) ?_
        refine x_ld (v := (dcF ce len L fo) j) E hw 1 rfl j rfl (by omega) (by decide) rfl dX0_draws_29 ?_
        refine lv_imul hx hb dX0_draws_30 ?_
        refine lv_iload_n hx hb dX0_draws_31 rfl (lv_at hl 1 rfl) ?_
        refine lv_aload_n hx hb dX0_draws_32 rfl (lv_at hl 3 rfl) ?_
        refine lv_iload_n hx hb dX0_draws_33 rfl (lv_at hl 0 rfl) ?_
        refine x_go (ws' := [(h 8, .inr (0, [.ref (h 9), .ref (h 10)])), (h 9, .inl (g.2.1, 200, .inl (dcF ce len L fo))), (h 10, .inl (g.2.1, 200, .inl (lwS (dcF ce len L fo) gr (st 0) L (j + 1) sq))), (h 2, .inr (5, [.int (nI L), .ref (h 3), .ref (h 4), .ref (h 5), .ref (h 6)])), (h 3, .inl (g.2.1, 200, .inl ce)), (h 4, .inl (g.2.1, 200, .inl gr)), (h 6, .inl (g.2.1, 7, .inl st))]) (st1 := [.int (dcl (st 0) (gr j)), .int (lwD (dcF ce len L fo) gr (st 0) L (L - (j + 1))), .int ((dcF ce len L fo) j * (dcF ce len L fo) j)]) E hw [3, 5, 6] rfl (x_runVN (rest := [.int (lwD (dcF ce len L fo) gr (st 0) L (L - (j + 1))), .int ((dcF ce len L fo) j * (dcF ce len L fo) j)]) E hw (c_X5_decel l g h L gr st j (by omega)) km_X0_28 kv_X5_decel [3, 5, 6] rfl (by decide) 3 rfl hl.1 rfl rfl (Nat.le_of_ble_eq_true rfl) ⟨Nat.le_of_ble_eq_true rfl, Nat.le_of_ble_eq_true rfl⟩ ⟨Nat.zero_le _, Nat.zero_le _⟩ dX0_draws_34) rfl rfl rfl (fun H locs hw => ?_)
        refine lv_iadd hx hb dX0_draws_37 ?_
        refine x_min E km_X0_32 hl.1 (Nat.le_of_ble_eq_true rfl) (Nat.le_of_ble_eq_true rfl) ⟨Nat.zero_le _, Nat.zero_le _⟩ dX0_draws_38 ?_
        refine x_top (v' := .int (lwD (dcF ce len L fo) gr (st 0) L (L - j))) (congrArg Value.int (lwD_st (dcF ce len L fo) gr (st 0) L j (by omega)).symm) ?_
        refine lv_istore_n (lv' := [(2, .int (lwD (dcF ce len L fo) gr (st 0) L (L - j))), (3, .int (nI j)), (0, .ref (h 8)), (1, .ref (h 2))]) hx hb dX0_draws_41 rfl hl (by decide) rfl (fun ls hl => ?_)
        refine lv_aload_n hx hb dX0_draws_42 rfl (lv_at hl 2 rfl) ?_
        refine x_get E hw kf_X0_17 0 rfl rfl dX0_draws_43 ?_
        refine lv_iload_n hx hb dX0_draws_46 rfl (lv_at hl 1 rfl) ?_
        refine lv_iload_n hx hb dX0_draws_47 rfl (lv_at hl 0 rfl) ?_
        refine x_ist E hw 2 rfl j rfl (by omega) (by decide) (ws' := [(h 8, .inr (0, [.ref (h 9), .ref (h 10)])), (h 9, .inl (g.2.1, 200, .inl (dcF ce len L fo))), (h 10, .inl (g.2.1, 200, .inl (upd (lwS (dcF ce len L fo) gr (st 0) L (j + 1) sq) j (lwD (dcF ce len L fo) gr (st 0) L (L - j))))), (h 2, .inr (5, [.int (nI L), .ref (h 3), .ref (h 4), .ref (h 5), .ref (h 6)])), (h 3, .inl (g.2.1, 200, .inl ce)), (h 4, .inl (g.2.1, 200, .inl gr)), (h 6, .inl (g.2.1, 7, .inl st))]) rfl dX0_draws_48 (fun H locs hw => ?_)
        refine lv_iinc (v := nI j - 1) (lv' := [(3, .int (nI j - 1)), (2, .int (lwD (dcF ce len L fo) gr (st 0) L (L - j))), (0, .ref (h 8)), (1, .ref (h 2))]) hx hb dX0_draws_49 hl (k := 1) rfl (nI_dec j) (by decide) rfl (fun ls hl => ?_)
        refine lv_goto (tgt := 14) hx hb dX0_draws_52 (by decide) ?_
        have hw := hw.arr (f' := (lwS (dcF ce len L fo) gr (st 0) L j sq)) (ws' := [(h 8, .inr (0, [.ref (h 9), .ref (h 10)])), (h 9, .inl (g.2.1, 200, .inl (dcF ce len L fo))), (h 10, .inl (g.2.1, 200, .inl (lwS (dcF ce len L fo) gr (st 0) L j sq))), (h 2, .inr (5, [.int (nI L), .ref (h 3), .ref (h 4), .ref (h 5), .ref (h 6)])), (h 3, .inl (g.2.1, 200, .inl ce)), (h 4, .inl (g.2.1, 200, .inl gr)), (h 6, .inl (g.2.1, 7, .inl st))]) 2 rfl (fun i _ => lwS_st (dcF ce len L fo) gr (st 0) L j sq (by omega) i) rfl
        have hl : lv_has ls 4 [(3, .int (nI j - 1)), (2, .int (lwD (dcF ce len L fo) gr (st 0) L (L - j))), (0, .ref (h 8)), (1, .ref (h 2))] := lv_sub hl [0, 1, 2, 3] rfl
        have hl : lv_has ls 4 [(3, .int (nI j - 1)), (2, .int (lwD (dcF ce len L fo) gr (st 0) L (L - j))), (0, .ref (h 8)), (1, .ref (h 2))] := hl
        have hw : xW g A0 s0 [(h 8, .inr (0, [.ref (h 9), .ref (h 10)])), (h 9, .inl (g.2.1, 200, .inl (dcF ce len L fo))), (h 10, .inl (g.2.1, 200, .inl (lwS (dcF ce len L fo) gr (st 0) L j sq))), (h 2, .inr (5, [.int (nI L), .ref (h 3), .ref (h 4), .ref (h 5), .ref (h 6)])), (h 3, .inl (g.2.1, 200, .inl ce)), (h 4, .inl (g.2.1, 200, .inl gr)), (h 6, .inl (g.2.1, 7, .inl st))] _ _ := hw
        exact ih j (by omega) (by omega) _ _ _ hw hl
  have hw := hw.arr (f' := (lwS (dcF ce len L fo) gr (st 0) L L sq)) (ws' := [(h 8, .inr (0, [.ref (h 9), .ref (h 10)])), (h 9, .inl (g.2.1, 200, .inl (dcF ce len L fo))), (h 10, .inl (g.2.1, 200, .inl (lwS (dcF ce len L fo) gr (st 0) L L sq))), (h 2, .inr (5, [.int (nI L), .ref (h 3), .ref (h 4), .ref (h 5), .ref (h 6)])), (h 3, .inl (g.2.1, 200, .inl ce)), (h 4, .inl (g.2.1, 200, .inl gr)), (h 6, .inl (g.2.1, 7, .inl st))]) 2 rfl (fun j _ => (lwS_nil (dcF ce len L fo) gr (st 0) L sq j).symm) rfl
  have hl : lv_has ls 4 [(3, .int (nI L - 1)), (2, .int 0), (0, .ref (h 8)), (1, .ref (h 2))] := lv_sub hl [0, 1, 2, 3] rfl
  have hl : lv_has ls 4 [(3, .int (nI L - 1)), (2, .int (lwD (dcF ce len L fo) gr (st 0) L (L - L))), (0, .ref (h 8)), (1, .ref (h 2))] := lv_re hl (by rw [show (0 : Int32) = lwD (dcF ce len L fo) gr (st 0) L (L - L) from (by rw [Nat.sub_self]; rfl)])
  have hw : xW g A0 s0 [(h 8, .inr (0, [.ref (h 9), .ref (h 10)])), (h 9, .inl (g.2.1, 200, .inl (dcF ce len L fo))), (h 10, .inl (g.2.1, 200, .inl (lwS (dcF ce len L fo) gr (st 0) L L sq))), (h 2, .inr (5, [.int (nI L), .ref (h 3), .ref (h 4), .ref (h 5), .ref (h 6)])), (h 3, .inl (g.2.1, 200, .inl ce)), (h 4, .inl (g.2.1, 200, .inl gr)), (h 6, .inl (g.2.1, 7, .inl st))] _ _ := hw
  exact lp_14 (L + 1) L (Nat.lt_succ_self _) (by omega) _ _ _ hw hl

set_option maxRecDepth 100000 in
set_option maxHeartbeats 4000000 in
theorem c_X0_boundOf (l : Launch) (g : xCfg) (h : Nat → Nat) (fo : Nat → Int32) (sq : Nat → Int32) (L : Nat) (gr : Nat → Int32) (st : Nat → Int32) (x : Nat) (hL : L ≤ 200) (hx0 : x < L) : Ct l g yX0_boundOf cX0_boundOf 5 (some .int) (xR 2 34) [.ref (h 8), .ref (h 2), .int (nI x)] [(h 8, .inr (0, [.ref (h 9), .ref (h 10)])), (h 9, .inl (g.2.1, 200, .inl fo)), (h 10, .inl (g.2.1, 200, .inl sq)), (h 2, .inr (5, [.int (nI L), .ref (h 3), .ref (h 4), .ref (h 5), .ref (h 6)])), (h 4, .inl (g.2.1, 200, .inl gr)), (h 6, .inl (g.2.1, 7, .inl st))] (is1 (some (.int (nI (bndL (sq x) fo gr (st 0) (L - x) x 0)))) [(h 8, .inr (0, [.ref (h 9), .ref (h 10)])), (h 9, .inl (g.2.1, 200, .inl fo)), (h 10, .inl (g.2.1, 200, .inl sq)), (h 2, .inr (5, [.int (nI L), .ref (h 3), .ref (h 4), .ref (h 5), .ref (h 6)])), (h 4, .inl (g.2.1, 200, .inl gr)), (h 6, .inl (g.2.1, 7, .inl st))]) := by
  refine Ct.walk (by decide) (Nat.le_of_ble_eq_true rfl) ?_
  intro p0 e0 s0 m0 below meth c0 A0 ls Q hQ E hr hnm hw hl
  have hx := E.x
  have hb := E.b
  have hl : lv_has ls 5 [(0, .ref (h 8)), (1, .ref (h 2)), (2, .int (nI x))] := hl
  refine lv_iconst (v := 0) hx hb dX0_boundOf_0 (by decide) ?_
  refine lv_istore_n (lv' := [(3, .int 0), (0, .ref (h 8)), (1, .ref (h 2)), (2, .int (nI x))]) hx hb dX0_boundOf_1 rfl hl (by decide) rfl (fun ls hl => ?_)
  refine lv_iload_n hx hb dX0_boundOf_2 rfl (lv_at hl 3 rfl) ?_
  refine lv_istore (lv' := [(4, .int (nI x)), (3, .int 0), (0, .ref (h 8)), (1, .ref (h 2)), (2, .int (nI x))]) hx hb dX0_boundOf_3 hl (by decide) rfl (fun ls hl => ?_)
  have lp_5 : ∀ (fuel : Nat) (y : Nat) (br : Int32), L - y < fuel → x ≤ y → y ≤ L → bndL (sq x) fo gr (st 0) (L - y) y br = bndL (sq x) fo gr (st 0) (L - x) x 0 → ∀ (H : Heap) (locs : List Loc) (ls : Array Slot), xW g A0 s0 [(h 8, .inr (0, [.ref (h 9), .ref (h 10)])), (h 9, .inl (g.2.1, 200, .inl fo)), (h 10, .inl (g.2.1, 200, .inl sq)), (h 2, .inr (5, [.int (nI L), .ref (h 3), .ref (h 4), .ref (h 5), .ref (h 6)])), (h 4, .inl (g.2.1, 200, .inl gr)), (h 6, .inl (g.2.1, 7, .inl st))] H locs → lv_has ls 5 [(4, .int (nI y)), (3, .int br), (0, .ref (h 8)), (1, .ref (h 2)), (2, .int (nI x))] → W p0 l e0 (xR 2 34) s0 m0 [.ref (h 8), .ref (h 2), .int (nI x)].toArray below meth c0 H locs 0 0 Q (F0 m0 5 ls []) := by
    intro fuel
    induction fuel with
    | zero => intro y br hm; exact absurd hm (Nat.not_lt_zero _)
    | succ fuel ih =>
      intro y br hm h1 h2 hi H locs ls hw hl
      refine lv_iload hx hb dX0_boundOf_5 (lv_at hl 0 rfl) ?_
      refine lv_aload_n hx hb dX0_boundOf_7 rfl (lv_at hl 3 rfl) ?_
      refine x_getN E hw kf_X0_24 3 rfl rfl dX0_boundOf_8 ?_
      refine xn_ge (tgt := 58) hx hb y L rfl rfl (by omega) (by omega) dX0_boundOf_11 (by decide) (fun c_1 => ?_) (fun c_1 => ?_)
      · obtain rfl : y = L := by omega
        refine lv_aload_n hx hb dX0_boundOf_58 rfl (lv_at hl 3 rfl) ?_
        refine x_getN E hw kf_X0_24 3 rfl rfl dX0_boundOf_59 ?_
        exact xr_i hQ E hr hw dX0_boundOf_62 ⟨congrArg (fun z => some (Value.int z)) (congrArg nI (by rw [← hi, Nat.sub_self]; rfl)), rfl⟩
      · refine lv_aload_n hx hb dX0_boundOf_14 rfl (lv_at hl 2 rfl) ?_
        refine x_get E hw kf_X0_17 0 rfl rfl dX0_boundOf_15 ?_
        refine lv_iload_n hx hb dX0_boundOf_18 rfl (lv_at hl 4 rfl) ?_
        refine x_ld (v := sq x) E hw 2 rfl x rfl (by omega) (by decide) rfl dX0_boundOf_19 ?_
        refine lv_aload_n hx hb dX0_boundOf_20 rfl (lv_at hl 2 rfl) ?_
        refine x_get E hw kf_X0_11 0 rfl rfl dX0_boundOf_21 ?_
        refine lv_iload hx hb dX0_boundOf_24 (lv_at hl 0 rfl) ?_
        refine x_ld (v := fo y) E hw 1 rfl y rfl (by omega) (by decide) rfl dX0_boundOf_26 ?_
        refine lv_aload_n hx hb dX0_boundOf_27 rfl (lv_at hl 2 rfl) ?_
        refine x_get E hw kf_X0_11 0 rfl rfl dX0_boundOf_28 ?_
        refine lv_iload hx hb dX0_boundOf_31 (lv_at hl 0 rfl) ?_
        refine x_ld (v := fo y) E hw 1 rfl y rfl (by omega) (by decide) rfl dX0_boundOf_33 ?_
        refine lv_imul hx hb dX0_boundOf_34 ?_
        refine lv_iload_n hx hb dX0_boundOf_35 rfl (lv_at hl 1 rfl) ?_
        refine lv_iadd hx hb dX0_boundOf_36 ?_
        refine lv_icmp_ne (tgt := 43) hx hb dX0_boundOf_37 (by decide) (fun ce => ?_) (fun ce => ?_)
        · refine lv_iload_n hx hb dX0_boundOf_43 rfl (lv_at hl 1 rfl) ?_
          refine lv_aload_n hx hb dX0_boundOf_44 rfl (lv_at hl 3 rfl) ?_
          refine lv_iload hx hb dX0_boundOf_45 (lv_at hl 0 rfl) ?_
          refine x_go (ws' := [(h 8, .inr (0, [.ref (h 9), .ref (h 10)])), (h 9, .inl (g.2.1, 200, .inl fo)), (h 10, .inl (g.2.1, 200, .inl sq)), (h 2, .inr (5, [.int (nI L), .ref (h 3), .ref (h 4), .ref (h 5), .ref (h 6)])), (h 4, .inl (g.2.1, 200, .inl gr)), (h 6, .inl (g.2.1, 7, .inl st))]) (st1 := [.int (dcl (st 0) (gr y)), .int br]) E hw [3, 4, 5] rfl (x_runVN (rest := [.int br]) E hw (c_X5_decel l g h L gr st y (by omega)) km_X0_28 kv_X5_decel [3, 4, 5] rfl (by decide) 3 rfl hl.1 rfl rfl (Nat.le_of_ble_eq_true rfl) ⟨Nat.le_of_ble_eq_true rfl, Nat.le_of_ble_eq_true rfl⟩ ⟨Nat.zero_le _, Nat.zero_le _⟩ dX0_boundOf_47) rfl rfl rfl (fun H locs hw => ?_)
          refine lv_iadd hx hb dX0_boundOf_50 ?_
          refine lv_istore_n (lv' := [(3, .int (br + dcl (st 0) (gr y))), (4, .int (nI y)), (0, .ref (h 8)), (1, .ref (h 2)), (2, .int (nI x))]) hx hb dX0_boundOf_51 rfl hl (by decide) rfl (fun ls hl => ?_)
          refine lv_iinc (v := nI (y + 1)) (lv' := [(4, .int (nI (y + 1))), (3, .int (br + dcl (st 0) (gr y))), (0, .ref (h 8)), (1, .ref (h 2)), (2, .int (nI x))]) hx hb dX0_boundOf_52 hl (k := 1) rfl (nI_1 _) (by decide) rfl (fun ls hl => ?_)
          refine lv_goto (tgt := 5) hx hb dX0_boundOf_55 (by decide) ?_
          have hl : lv_has ls 5 [(4, .int (nI (y + 1))), (3, .int (br + dcl (st 0) (gr y))), (0, .ref (h 8)), (1, .ref (h 2)), (2, .int (nI x))] := lv_sub hl [0, 1, 2, 3, 4] rfl
          have hl : lv_has ls 5 [(4, .int (nI (y + 1))), (3, .int (br + dcl (st 0) (gr y))), (0, .ref (h 8)), (1, .ref (h 2)), (2, .int (nI x))] := hl
          have hw : xW g A0 s0 [(h 8, .inr (0, [.ref (h 9), .ref (h 10)])), (h 9, .inl (g.2.1, 200, .inl fo)), (h 10, .inl (g.2.1, 200, .inl sq)), (h 2, .inr (5, [.int (nI L), .ref (h 3), .ref (h 4), .ref (h 5), .ref (h 6)])), (h 4, .inl (g.2.1, 200, .inl gr)), (h 6, .inl (g.2.1, 7, .inl st))] _ _ := hw
          exact ih (y + 1) (br + dcl (st 0) (gr y)) (by omega) (by omega) (by omega) ((bndL_go (by omega) ce).symm.trans hi) _ _ _ hw hl
        · refine lv_iload hx hb dX0_boundOf_40 (lv_at hl 0 rfl) ?_
          exact xr_i hQ E hr hw dX0_boundOf_42 ⟨congrArg (fun z => some (Value.int z)) (congrArg nI ((bndL_at (by omega) ce).symm.trans hi)), rfl⟩
  have hl : lv_has ls 5 [(4, .int (nI x)), (3, .int 0), (0, .ref (h 8)), (1, .ref (h 2)), (2, .int (nI x))] := lv_sub hl [0, 1, 2, 3, 4] rfl
  have hl : lv_has ls 5 [(4, .int (nI x)), (3, .int 0), (0, .ref (h 8)), (1, .ref (h 2)), (2, .int (nI x))] := hl
  have hw : xW g A0 s0 [(h 8, .inr (0, [.ref (h 9), .ref (h 10)])), (h 9, .inl (g.2.1, 200, .inl fo)), (h 10, .inl (g.2.1, 200, .inl sq)), (h 2, .inr (5, [.int (nI L), .ref (h 3), .ref (h 4), .ref (h 5), .ref (h 6)])), (h 4, .inl (g.2.1, 200, .inl gr)), (h 6, .inl (g.2.1, 7, .inl st))] _ _ := hw
  exact lp_5 ((L - x) + 1) x 0 (Nat.lt_succ_self _) (by omega) (by omega) rfl _ _ _ hw hl

set_option maxRecDepth 100000 in
set_option maxHeartbeats 4000000 in
theorem c_X0_leastSquare (l : Launch) (g : xCfg) (h : Nat → Nat) (sq : Nat → Int32) (a : Nat) (z : Nat) (ha : a < 200) (hz : z < 200) : Ct l g yX0_leastSquare cX0_leastSquare 5 (some .int) (xR 1 13) [.ref (h 8), .int (nI a), .int (nI z)] [(h 8, .inr (0, [.ref (h 9), .ref (h 10)])), (h 10, .inl (g.2.1, 200, .inl sq))] (is1 (some (.int (lsq sq a (z - a)))) [(h 8, .inr (0, [.ref (h 9), .ref (h 10)])), (h 10, .inl (g.2.1, 200, .inl sq))]) := by
  refine Ct.walk (by decide) (Nat.le_of_ble_eq_true rfl) ?_
  intro p0 e0 s0 m0 below meth c0 A0 ls Q hQ E hr hnm hw hl
  have hx := E.x
  have hb := E.b
  have hl : lv_has ls 5 [(0, .ref (h 8)), (1, .int (nI a)), (2, .int (nI z))] := hl
  refine lv_aload_n hx hb dX0_leastSquare_0 rfl (lv_at hl 0 rfl) ?_
  refine x_get E hw kf_X0_17 0 rfl rfl dX0_leastSquare_1 ?_
  refine lv_iload_n hx hb dX0_leastSquare_4 rfl (lv_at hl 1 rfl) ?_
  refine x_ld (v := sq a) E hw 1 rfl a rfl (by omega) (by decide) rfl dX0_leastSquare_5 ?_
  refine lv_istore_n (lv' := [(3, .int (sq a)), (0, .ref (h 8)), (1, .int (nI a)), (2, .int (nI z))]) hx hb dX0_leastSquare_6 rfl hl (by decide) rfl (fun ls hl => ?_)
  refine lv_iload_n hx hb dX0_leastSquare_7 rfl (lv_at hl 2 rfl) ?_
  refine lv_iconst (v := 1) hx hb dX0_leastSquare_8 (by decide) ?_
  refine xn_add hx hb a 1 rfl rfl dX0_leastSquare_9 ?_
  refine lv_istore (lv' := [(4, .int (nI (a + 1))), (3, .int (sq a)), (0, .ref (h 8)), (1, .int (nI a)), (2, .int (nI z))]) hx hb dX0_leastSquare_10 hl (by decide) rfl (fun ls hl => ?_)
  have lp_12 : ∀ (fuel : Nat) (d : Nat), z - a - d < fuel → d ≤ z - a → ∀ (H : Heap) (locs : List Loc) (ls : Array Slot), xW g A0 s0 [(h 8, .inr (0, [.ref (h 9), .ref (h 10)])), (h 10, .inl (g.2.1, 200, .inl sq))] H locs → lv_has ls 5 [(4, .int (nI (a + d + 1))), (3, .int (lsq sq a d)), (0, .ref (h 8)), (2, .int (nI z))] → W p0 l e0 (xR 1 13) s0 m0 [.ref (h 8), .int (nI a), .int (nI z)].toArray below meth c0 H locs 0 0 Q (F0 m0 12 ls []) := by
    intro fuel
    induction fuel with
    | zero => intro d hm; exact absurd hm (Nat.not_lt_zero _)
    | succ fuel ih =>
      intro d hm h1 H locs ls hw hl
      refine lv_iload hx hb dX0_leastSquare_12 (lv_at hl 0 rfl) ?_
      refine lv_iload_n hx hb dX0_leastSquare_14 rfl (lv_at hl 3 rfl) ?_
      refine xn_gt (tgt := 36) hx hb (a + d + 1) z rfl rfl (by omega) (by omega) dX0_leastSquare_15 (by decide) (fun c_1 => ?_) (fun c_1 => ?_)
      · obtain rfl : d = z - a := by omega
        refine lv_iload_n hx hb dX0_leastSquare_36 rfl (lv_at hl 1 rfl) ?_
        exact xr_i hQ E hr hw dX0_leastSquare_37 ⟨rfl, rfl⟩
      · refine lv_iload_n hx hb dX0_leastSquare_18 rfl (lv_at hl 1 rfl) ?_
        refine lv_aload_n hx hb dX0_leastSquare_19 rfl (lv_at hl 2 rfl) ?_
        refine x_get E hw kf_X0_17 0 rfl rfl dX0_leastSquare_20 ?_
        refine lv_iload hx hb dX0_leastSquare_23 (lv_at hl 0 rfl) ?_
        refine x_ld (v := sq (a + d + 1)) E hw 1 rfl (a + d + 1) rfl (by omega) (by decide) rfl dX0_leastSquare_25 ?_
        refine x_min E km_X0_32 hl.1 (Nat.le_of_ble_eq_true rfl) (Nat.le_of_ble_eq_true rfl) ⟨Nat.zero_le _, Nat.zero_le _⟩ dX0_leastSquare_26 ?_
        refine x_top (v' := .int (lsq sq a (d + 1))) rfl ?_
        refine lv_istore_n (lv' := [(3, .int (lsq sq a (d + 1))), (4, .int (nI (a + d + 1))), (0, .ref (h 8)), (2, .int (nI z))]) hx hb dX0_leastSquare_29 rfl hl (by decide) rfl (fun ls hl => ?_)
        refine lv_iinc (v := nI (a + d + 2)) (lv' := [(4, .int (nI (a + d + 2))), (3, .int (lsq sq a (d + 1))), (0, .ref (h 8)), (2, .int (nI z))]) hx hb dX0_leastSquare_30 hl (k := 1) rfl (nI_1 _) (by decide) rfl (fun ls hl => ?_)
        refine lv_goto (tgt := 12) hx hb dX0_leastSquare_33 (by decide) ?_
        have hl : lv_has ls 5 [(4, .int (nI (a + d + 2))), (3, .int (lsq sq a (d + 1))), (0, .ref (h 8)), (2, .int (nI z))] := lv_sub hl [0, 1, 2, 3] rfl
        have hl : lv_has ls 5 [(4, .int (nI (a + (d + 1) + 1))), (3, .int (lsq sq a (d + 1))), (0, .ref (h 8)), (2, .int (nI z))] := lv_re hl (by rw [show (nI (a + d + 2) : Int32) = nI (a + (d + 1) + 1) from congrArg nI (by omega)])
        have hw : xW g A0 s0 [(h 8, .inr (0, [.ref (h 9), .ref (h 10)])), (h 10, .inl (g.2.1, 200, .inl sq))] _ _ := hw
        exact ih (d + 1) (by omega) (by omega) _ _ _ hw hl
  have hl : lv_has ls 5 [(4, .int (nI (a + 1))), (3, .int (sq a)), (0, .ref (h 8)), (2, .int (nI z))] := lv_sub hl [0, 1, 2, 4] rfl
  have hl : lv_has ls 5 [(4, .int (nI (a + 0 + 1))), (3, .int (lsq sq a 0)), (0, .ref (h 8)), (2, .int (nI z))] := lv_re hl (by rw [show (sq a : Int32) = lsq sq a 0 from rfl, show (nI (a + 1) : Int32) = nI (a + 0 + 1) from congrArg nI rfl])
  have hw : xW g A0 s0 [(h 8, .inr (0, [.ref (h 9), .ref (h 10)])), (h 10, .inl (g.2.1, 200, .inl sq))] _ _ := hw
  exact lp_12 ((z - a - 0) + 1) 0 (Nat.lt_succ_self _) (by omega) _ _ _ hw hl
end
section

/-- a number kept to the cells -/
def kpt (L : Nat) (x : Int32) : Nat := if nI (L - 1) < x then L - 1 else x.toNatClampNeg
theorem clampN {x : Int32} : (if (0 : Int32) < x then x else 0) = nI x.toNatClampNeg := by
  by_cases h : x < 0
  · have h0 : x.toNatClampNeg = 0 := by
      have h1 : x.toInt < 0 := by simpa using Int32.lt_iff_toInt_lt.mp h
      show x.toInt.toNat = 0
      omega
    rw [h0, if_neg (fun z => absurd (Int32.lt_trans h z) (Int32.lt_irrefl))]
    rfl
  · obtain ⟨j, hj, rfl⟩ := nI_of h
    rw [nI_clamp hj]
    split
    · rfl
    · rename_i h1
      have : ¬ 0 < j := fun z => h1 ((n_lt (a := 0) (by decide) hj).mpr z)
      rw [show j = 0 by omega]
      rfl
theorem kpt_eq {L : Nat} {x : Int32} (hL : L ≤ 200) : (if (0 : Int32) < (if nI (L - 1) < x then nI (L - 1) else x) then (if nI (L - 1) < x then nI (L - 1) else x) else 0) = nI (kpt L x) := by
  rw [clampN]
  unfold kpt
  split
  · rw [nI_clamp (by omega)]
  · rfl
theorem kpt_lt {L : Nat} {x : Int32} (h : 1 ≤ L) (hL : L ≤ 200) : kpt L x < L := by
  unfold kpt
  split
  · omega
  · rename_i h1
    by_cases h0 : x < 0
    · have h2 : x.toInt < 0 := by simpa using Int32.lt_iff_toInt_lt.mp h0
      show x.toInt.toNat < L
      omega
    · obtain ⟨j, hj, rfl⟩ := nI_of h0
      rw [nI_clamp hj]
      have : ¬ L - 1 < j := fun z => h1 ((n_lt (by omega) hj).mpr z)
      omega
theorem minN {a b : Nat} (ha : a < 2 ^ 31) (hb : b < 2 ^ 31) : (if nI b < nI a then nI b else nI a) = nI (min a b) := by
  by_cases h : b < a
  · rw [if_pos ((n_lt hb ha).mpr h), Nat.min_eq_right (by omega)]
  · rw [if_neg (fun z => h ((n_lt hb ha).mp z)), Nat.min_eq_left (by omega)]
/-- SEEN -/
def seenN (L : Nat) (lo hi : Int32) (sq : Nat → Int32) : Nat := rtL 15 0 (lsq sq (kpt L (lo / 1000)) (kpt L ((hi + 999) / 1000) - kpt L (lo / 1000)))
/-- GAIN -/
def gnF (mo hd b pl gd : Int32) : Int32 := if mo = 3 then -dcl b gd else if mo = 2 then -(3 * b / 4) - gd else if 0 ≤ hd then (if hd = 0 then -gd else pl - gd) else -(b / 2) - gd
/-- a train: FRONT, SQUARE, MODE, LOW, HIGH, ALARMS, OVERRUNS, steps in all -/
abbrev TV : Type := Nat × Int32 × Int32 × Int32 × Int32 × Int32 × Int32 × Int32
def abv (L : Nat) (sq : Nat → Int32) (t : TV) : Int32 := nI (rtL 15 0 t.2.1) - nI (seenN L t.2.2.2.1 t.2.2.2.2.1 sq)
def supM (md ab : Int32) (st : Nat → Int32) : Int32 := if md = 3 then md else if ab ≤ st 6 then (if ab ≤ st 5 then (if ab ≤ st 4 then 0 else if md = 2 then 2 else 1) else 2) else 3
def supA (md ab al : Int32) (st : Nat → Int32) : Int32 := if md = 3 then al else if ab ≤ st 6 then al else al + 1
def supT (L : Nat) (st sq : Nat → Int32) (t : TV) : TV := (t.1, t.2.1, supM t.2.2.1 (abv L sq t) st, t.2.2.2.1, t.2.2.2.2.1, supA t.2.2.1 (abv L sq t) t.2.2.2.2.2.1 st, t.2.2.2.2.2.2.1, t.2.2.2.2.2.2.2)
def nqF (gr st : Nat → Int32) (hd : Int32) (t : TV) : Int32 := t.2.1 + gnF t.2.2.1 hd (st 0) (st 1) (gr t.1)
abbrev stpP (L : Nat) (gr st : Nat → Int32) (hd : Int32) (t : TV) : Prop := ¬ nqF gr st hd t ≤ 0 ∧ t.1 < L - 1
def goT (be st : Nat → Int32) (v : Int32) (t : TV) : TV := (t.1 + 1, v, t.2.2.1, if be (t.1 + 1) = 1 then nI (1000 * (t.1 + 1)) else t.2.2.2.1 + (1000 - st 3), if be (t.1 + 1) = 1 then nI (1000 * (t.1 + 1)) else t.2.2.2.2.1 + (1000 + st 3), t.2.2.2.2.2.1, t.2.2.2.2.2.2.1, t.2.2.2.2.2.2.2 + 1)
def hltT (o : Int32) (t : TV) : TV := (t.1, 0, t.2.2.1, t.2.2.2.1, t.2.2.2.2.1, t.2.2.2.2.2.1, o, t.2.2.2.2.2.2.2)
def stpT (L : Nat) (gr be st sq : Nat → Int32) (hd : Int32) (t : TV) : TV := if stpP L gr st hd t then supT L st sq (goT be st (nqF gr st hd t) t) else supT L st sq (hltT (if nqF gr st hd t ≤ 0 then t.2.2.2.2.2.2.1 else t.2.2.2.2.2.2.1 + 1) t)
theorem stpT_go {L : Nat} {gr be st sq : Nat → Int32} {hd : Int32} {t : TV} (h : stpP L gr st hd t) : stpT L gr be st sq hd t = supT L st sq (goT be st (nqF gr st hd t) t) := if_pos h
theorem stpT_end {L : Nat} {gr be st sq : Nat → Int32} {hd : Int32} {t : TV} (h : ¬ nqF gr st hd t ≤ 0) (h2 : L - 1 ≤ t.1) : stpT L gr be st sq hd t = supT L st sq (hltT (t.2.2.2.2.2.2.1 + 1) t) := by
  rw [stpT, if_neg (fun z => absurd z.2 (by omega)), if_neg h]
theorem stpT_0 {L : Nat} {gr be st sq : Nat → Int32} {hd : Int32} {t : TV} (h : nqF gr st hd t ≤ 0) : stpT L gr be st sq hd t = supT L st sq (hltT t.2.2.2.2.2.2.1 t) := by
  rw [stpT, if_neg (fun z => z.1 h), if_pos h]
theorem stpT_lt {L : Nat} {gr be st sq : Nat → Int32} {hd : Int32} {t : TV} (h : t.1 < L) : (stpT L gr be st sq hd t).1 < L := by
  unfold stpT
  split
  · rename_i h1
    show t.1 + 1 < L
    omega
  · exact h
/-- the HANDLE that the DRIVER takes -/
def mostF (L : Nat) (sq : Nat → Int32) (t : TV) : Int32 := lsq sq (kpt L (t.2.2.2.1 / 1000)) (min (kpt L ((t.2.2.2.2.1 + 999) / 1000) + 1) (L - 1) - kpt L (t.2.2.2.1 / 1000))
def drvH (L : Nat) (gr st sq : Nat → Int32) (t : TV) : Int32 := if mostF L sq t < t.2.1 + gnF 0 1 (st 0) (st 1) (gr t.1) then (if mostF L sq t < t.2.1 + gnF 0 0 (st 0) (st 1) (gr t.1) then -1 else 0) else 1
def drvT (L : Nat) (gr be st sq : Nat → Int32) : Nat → TV → Nat × TV
  | 0, t => (0, t)
  | k + 1, t => if stpP L gr st (drvH L gr st sq t) t then ((drvT L gr be st sq k (stpT L gr be st sq (drvH L gr st sq t) t)).1 + 1, (drvT L gr be st sq k (stpT L gr be st sq (drvH L gr st sq t) t)).2) else (0, stpT L gr be st sq (drvH L gr st sq t) t)
theorem drvT_no {L : Nat} {gr be st sq : Nat → Int32} {k : Nat} {t : TV} (h : ¬ stpP L gr st (drvH L gr st sq t) t) : drvT L gr be st sq (k + 1) t = (0, stpT L gr be st sq (drvH L gr st sq t) t) := by rw [drvT, if_neg h]
theorem drvT_go {L : Nat} {gr be st sq : Nat → Int32} {k : Nat} {t : TV} (h : stpP L gr st (drvH L gr st sq t) t) : drvT L gr be st sq (k + 1) t = ((drvT L gr be st sq k (stpT L gr be st sq (drvH L gr st sq t) t)).1 + 1, (drvT L gr be st sq k (stpT L gr be st sq (drvH L gr st sq t) t)).2) := by rw [drvT, if_pos h]
def plT (x : Nat) (v : Int32) (t : TV) : TV := (x, v * v, 0, nI (1000 * x), nI (1000 * x), t.2.2.2.2.2.1, t.2.2.2.2.2.2.1, t.2.2.2.2.2.2.2)
def rszT (t : TV) : TV := (0, 0, 0, 0, 0, t.2.2.2.2.2.1, t.2.2.2.2.2.2.1, t.2.2.2.2.2.2.2)
def relT (t : TV) : TV := (t.1, t.2.1, 0, t.2.2.2.1, t.2.2.2.2.1, t.2.2.2.2.2.1, t.2.2.2.2.2.2.1, t.2.2.2.2.2.2.2)
/-- how many of the first x cells have the root v -/
def cntP (sq : Nat → Int32) (v : Int32) : Nat → Nat
  | 0 => 0
  | x + 1 => cntP sq v x + if nI (rtL 15 0 (sq x)) = v then 1 else 0
theorem cntP_y {sq : Nat → Int32} {v : Int32} {x : Nat} (h : nI (rtL 15 0 (sq x)) = v) : cntP sq v (x + 1) = cntP sq v x + 1 := by rw [cntP, if_pos h]
theorem cntP_n {sq : Nat → Int32} {v : Int32} {x : Nat} (h : ¬ nI (rtL 15 0 (sq x)) = v) : cntP sq v (x + 1) = cntP sq v x := by rw [cntP, if_neg h, Nat.add_zero]
theorem nI_nn {L : Nat} {z : Int32} (h : L < 2 ^ 31) (hz : z < 0) : ¬ nI L = z := fun e => absurd (e ▸ hz : nI L < 0) (nI_pos h)
/-- what train() tells, cell() tells -/
def trvF (L : Nat) (gr st sq : Nat → Int32) (t : TV) : Nat → Int32
  | 0 => nI t.1
  | 1 => t.2.1
  | 2 => nI (rtL 15 0 t.2.1)
  | 3 => t.2.2.1
  | 4 => t.2.2.2.1
  | 5 => t.2.2.2.2.1
  | 6 => nI (kpt L (t.2.2.2.1 / 1000))
  | 7 => nI (kpt L ((t.2.2.2.2.1 + 999) / 1000))
  | 8 => nI (seenN L t.2.2.2.1 t.2.2.2.2.1 sq)
  | 9 => t.2.2.2.2.2.1
  | 10 => t.2.2.2.2.2.2.1
  | 11 => drvH L gr st sq t + 1
  | _ => t.2.2.2.2.2.2.2
def cevF (ce gr be fo : Nat → Int32) (b : Int32) (x : Nat) : Nat → Int32
  | 0 => ce x
  | 1 => gr x + 20
  | 2 => be x
  | 3 => dcl b (gr x)
  | _ => fo x

set_option maxRecDepth 100000 in
set_option maxHeartbeats 4000000 in
theorem c_X2_kept (l : Launch) (g : xCfg) (h : Nat → Nat) (L : Nat) (x : Int32) (hL1 : 1 ≤ L) (hL : L ≤ 200) : Ct l g yX2_kept cX2_kept 2 (some .int) (xR 1 14) [.ref (h 0), .int x] [(h 0, .inr (2, [.ref (h 1), .ref (h 2), .ref (h 7), .ref (h 8)])), (h 2, .inr (5, [.int (nI L), .ref (h 3), .ref (h 4), .ref (h 5), .ref (h 6)]))] (is1 (some (.int (nI (kpt L x)))) [(h 0, .inr (2, [.ref (h 1), .ref (h 2), .ref (h 7), .ref (h 8)])), (h 2, .inr (5, [.int (nI L), .ref (h 3), .ref (h 4), .ref (h 5), .ref (h 6)]))]) := by
  refine Ct.walk (by decide) (Nat.le_of_ble_eq_true rfl) ?_
  intro p0 e0 s0 m0 below meth c0 A0 ls Q hQ E hr hnm hw hl
  have hx := E.x
  have hb := E.b
  have hl : lv_has ls 2 [(0, .ref (h 0)), (1, .int x)] := hl
  refine lv_iconst (v := 0) hx hb dX2_kept_0 (by decide) ?_
  refine lv_iload_n hx hb dX2_kept_1 rfl (lv_at hl 1 rfl) ?_
  refine lv_aload_n hx hb dX2_kept_2 rfl (lv_at hl 0 rfl) ?_
  refine x_get E hw kf_X2_22 0 rfl rfl dX2_kept_3 ?_
  refine x_getN E hw kf_X2_74 1 rfl rfl dX2_kept_6 ?_
  refine lv_iconst (v := 1) hx hb dX2_kept_9 (by decide) ?_
  refine xn_sub hx hb L 1 rfl rfl (by omega) dX2_kept_10 ?_
  refine x_min E km_X2_129 hl.1 (Nat.le_of_ble_eq_true rfl) (Nat.le_of_ble_eq_true rfl) ⟨Nat.zero_le _, Nat.zero_le _⟩ dX2_kept_11 ?_
  refine x_max E km_X2_149 hl.1 (Nat.le_of_ble_eq_true rfl) (Nat.le_of_ble_eq_true rfl) ⟨Nat.zero_le _, Nat.zero_le _⟩ dX2_kept_14 ?_
  exact xr_i hQ E hr hw dX2_kept_17 ⟨congrArg (fun z => some (Value.int z)) (kpt_eq hL), rfl⟩

set_option maxRecDepth 100000 in
set_option maxHeartbeats 4000000 in
theorem c_X2_spanFirst (l : Launch) (g : xCfg) (h : Nat → Nat) (L : Nat) (t : TV) (hL1 : 1 ≤ L) (hL : L ≤ 200) : Ct l g yX2_spanFirst cX2_spanFirst 1 (some .int) (xR 2 35) [.ref (h 0)] [(h 0, .inr (2, [.ref (h 1), .ref (h 2), .ref (h 7), .ref (h 8)])), (h 2, .inr (5, [.int (nI L), .ref (h 3), .ref (h 4), .ref (h 5), .ref (h 6)])), (h 7, .inr (6, [.int (nI t.1), .int t.2.1, .int t.2.2.1, .int t.2.2.2.1, .int t.2.2.2.2.1, .int t.2.2.2.2.2.1, .int t.2.2.2.2.2.2.1, .int t.2.2.2.2.2.2.2]))] (is1 (some (.int (nI (kpt L (t.2.2.2.1 / 1000))))) [(h 0, .inr (2, [.ref (h 1), .ref (h 2), .ref (h 7), .ref (h 8)])), (h 2, .inr (5, [.int (nI L), .ref (h 3), .ref (h 4), .ref (h 5), .ref (h 6)])), (h 7, .inr (6, [.int (nI t.1), .int t.2.1, .int t.2.2.1, .int t.2.2.2.1, .int t.2.2.2.2.1, .int t.2.2.2.2.2.1, .int t.2.2.2.2.2.2.1, .int t.2.2.2.2.2.2.2]))]) := by
  refine Ct.walk (by decide) (Nat.le_of_ble_eq_true rfl) ?_
  intro p0 e0 s0 m0 below meth c0 A0 ls Q hQ E hr hnm hw hl
  have hx := E.x
  have hb := E.b
  have hl : lv_has ls 1 [(0, .ref (h 0))] := hl
  refine lv_aload_n hx hb dX2_spanFirst_0 rfl (lv_at hl 0 rfl) ?_
  refine lv_aload_n hx hb dX2_spanFirst_1 rfl (lv_at hl 0 rfl) ?_
  refine x_get E hw kf_X2_27 0 rfl rfl dX2_spanFirst_2 ?_
  refine x_getN E hw kf_X2_140 2 rfl rfl dX2_spanFirst_5 ?_
  refine lv_sipush (v := 1000) hx hb dX2_spanFirst_8 (by decide) ?_
  refine lv_idiv hx hb dX2_spanFirst_11 (by decide) ?_
  refine x_go (ws' := [(h 0, .inr (2, [.ref (h 1), .ref (h 2), .ref (h 7), .ref (h 8)])), (h 2, .inr (5, [.int (nI L), .ref (h 3), .ref (h 4), .ref (h 5), .ref (h 6)])), (h 7, .inr (6, [.int (nI t.1), .int t.2.1, .int t.2.2.1, .int t.2.2.2.1, .int t.2.2.2.2.1, .int t.2.2.2.2.2.1, .int t.2.2.2.2.2.2.1, .int t.2.2.2.2.2.2.2]))]) (st1 := [.int (nI (kpt L (t.2.2.2.1 / 1000)))]) E hw [0, 1] rfl (x_runV (rest := []) E hw (c_X2_kept l g h L (t.2.2.2.1 / 1000) (by omega) (by omega)) km_X2_143 kv_X2_kept [0, 1] rfl (by decide) 0 rfl hl.1 rfl rfl (Nat.le_of_ble_eq_true rfl) ⟨Nat.le_of_ble_eq_true rfl, Nat.le_of_ble_eq_true rfl⟩ ⟨Nat.zero_le _, Nat.zero_le _⟩ dX2_spanFirst_12) rfl rfl rfl (fun H locs hw => ?_)
  exact xr_i hQ E hr hw dX2_spanFirst_15 ⟨rfl, rfl⟩

set_option maxRecDepth 100000 in
set_option maxHeartbeats 4000000 in
theorem c_X2_spanLast (l : Launch) (g : xCfg) (h : Nat → Nat) (L : Nat) (t : TV) (hL1 : 1 ≤ L) (hL : L ≤ 200) : Ct l g yX2_spanLast cX2_spanLast 1 (some .int) (xR 2 35) [.ref (h 0)] [(h 0, .inr (2, [.ref (h 1), .ref (h 2), .ref (h 7), .ref (h 8)])), (h 2, .inr (5, [.int (nI L), .ref (h 3), .ref (h 4), .ref (h 5), .ref (h 6)])), (h 7, .inr (6, [.int (nI t.1), .int t.2.1, .int t.2.2.1, .int t.2.2.2.1, .int t.2.2.2.2.1, .int t.2.2.2.2.2.1, .int t.2.2.2.2.2.2.1, .int t.2.2.2.2.2.2.2]))] (is1 (some (.int (nI (kpt L ((t.2.2.2.2.1 + 999) / 1000))))) [(h 0, .inr (2, [.ref (h 1), .ref (h 2), .ref (h 7), .ref (h 8)])), (h 2, .inr (5, [.int (nI L), .ref (h 3), .ref (h 4), .ref (h 5), .ref (h 6)])), (h 7, .inr (6, [.int (nI t.1), .int t.2.1, .int t.2.2.1, .int t.2.2.2.1, .int t.2.2.2.2.1, .int t.2.2.2.2.2.1, .int t.2.2.2.2.2.2.1, .int t.2.2.2.2.2.2.2]))]) := by
  refine Ct.walk (by decide) (Nat.le_of_ble_eq_true rfl) ?_
  intro p0 e0 s0 m0 below meth c0 A0 ls Q hQ E hr hnm hw hl
  have hx := E.x
  have hb := E.b
  have hl : lv_has ls 1 [(0, .ref (h 0))] := hl
  refine lv_aload_n hx hb dX2_spanLast_0 rfl (lv_at hl 0 rfl) ?_
  refine lv_aload_n hx hb dX2_spanLast_1 rfl (lv_at hl 0 rfl) ?_
  refine x_get E hw kf_X2_27 0 rfl rfl dX2_spanLast_2 ?_
  refine x_getN E hw kf_X2_146 2 rfl rfl dX2_spanLast_5 ?_
  refine lv_sipush (v := 999) hx hb dX2_spanLast_8 (by decide) ?_
  refine lv_iadd hx hb dX2_spanLast_11 ?_
  refine lv_sipush (v := 1000) hx hb dX2_spanLast_12 (by decide) ?_
  refine lv_idiv hx hb dX2_spanLast_15 (by decide) ?_
  refine x_go (ws' := [(h 0, .inr (2, [.ref (h 1), .ref (h 2), .ref (h 7), .ref (h 8)])), (h 2, .inr (5, [.int (nI L), .ref (h 3), .ref (h 4), .ref (h 5), .ref (h 6)])), (h 7, .inr (6, [.int (nI t.1), .int t.2.1, .int t.2.2.1, .int t.2.2.2.1, .int t.2.2.2.2.1, .int t.2.2.2.2.2.1, .int t.2.2.2.2.2.2.1, .int t.2.2.2.2.2.2.2]))]) (st1 := [.int (nI (kpt L ((t.2.2.2.2.1 + 999) / 1000)))]) E hw [0, 1] rfl (x_runV (rest := []) E hw (c_X2_kept l g h L ((t.2.2.2.2.1 + 999) / 1000) (by omega) (by omega)) km_X2_143 kv_X2_kept [0, 1] rfl (by decide) 0 rfl hl.1 rfl rfl (Nat.le_of_ble_eq_true rfl) ⟨Nat.le_of_ble_eq_true rfl, Nat.le_of_ble_eq_true rfl⟩ ⟨Nat.zero_le _, Nat.zero_le _⟩ dX2_spanLast_16) rfl rfl rfl (fun H locs hw => ?_)
  exact xr_i hQ E hr hw dX2_spanLast_19 ⟨rfl, rfl⟩

set_option maxRecDepth 100000 in
set_option maxHeartbeats 4000000 in
theorem c_X2_seen (l : Launch) (g : xCfg) (h : Nat → Nat) (L : Nat) (t : TV) (sq : Nat → Int32) (hL1 : 1 ≤ L) (hL : L ≤ 200) : Ct l g yX2_seen cX2_seen 1 (some .int) (xR 3 55) [.ref (h 0)] [(h 0, .inr (2, [.ref (h 1), .ref (h 2), .ref (h 7), .ref (h 8)])), (h 2, .inr (5, [.int (nI L), .ref (h 3), .ref (h 4), .ref (h 5), .ref (h 6)])), (h 7, .inr (6, [.int (nI t.1), .int t.2.1, .int t.2.2.1, .int t.2.2.2.1, .int t.2.2.2.2.1, .int t.2.2.2.2.2.1, .int t.2.2.2.2.2.2.1, .int t.2.2.2.2.2.2.2])), (h 8, .inr (0, [.ref (h 9), .ref (h 10)])), (h 10, .inl (g.2.1, 200, .inl sq))] (is1 (some (.int (nI (seenN L t.2.2.2.1 t.2.2.2.2.1 sq)))) [(h 0, .inr (2, [.ref (h 1), .ref (h 2), .ref (h 7), .ref (h 8)])), (h 2, .inr (5, [.int (nI L), .ref (h 3), .ref (h 4), .ref (h 5), .ref (h 6)])), (h 7, .inr (6, [.int (nI t.1), .int t.2.1, .int t.2.2.1, .int t.2.2.2.1, .int t.2.2.2.2.1, .int t.2.2.2.2.2.1, .int t.2.2.2.2.2.2.1, .int t.2.2.2.2.2.2.2])), (h 8, .inr (0, [.ref (h 9), .ref (h 10)])), (h 10, .inl (g.2.1, 200, .inl sq))]) := by
  refine Ct.walk (by decide) (Nat.le_of_ble_eq_true rfl) ?_
  intro p0 e0 s0 m0 below meth c0 A0 ls Q hQ E hr hnm hw hl
  have hx := E.x
  have hb := E.b
  have hl : lv_has ls 1 [(0, .ref (h 0))] := hl
  refine lv_aload_n hx hb dX2_seen_0 rfl (lv_at hl 0 rfl) ?_
  refine x_get E hw kf_X2_31 0 rfl rfl dX2_seen_1 ?_
  refine lv_aload_n hx hb dX2_seen_4 rfl (lv_at hl 0 rfl) ?_
  refine x_go (ws' := [(h 0, .inr (2, [.ref (h 1), .ref (h 2), .ref (h 7), .ref (h 8)])), (h 2, .inr (5, [.int (nI L), .ref (h 3), .ref (h 4), .ref (h 5), .ref (h 6)])), (h 7, .inr (6, [.int (nI t.1), .int t.2.1, .int t.2.2.1, .int t.2.2.2.1, .int t.2.2.2.2.1, .int t.2.2.2.2.2.1, .int t.2.2.2.2.2.2.1, .int t.2.2.2.2.2.2.2])), (h 8, .inr (0, [.ref (h 9), .ref (h 10)])), (h 10, .inl (g.2.1, 200, .inl sq))]) (st1 := [.int (nI (kpt L (t.2.2.2.1 / 1000))), .ref (h 8)]) E hw [0, 1, 2] rfl (x_runV (rest := [.ref (h 8)]) E hw (c_X2_spanFirst l g h L t (by omega) (by omega)) km_X2_134 kv_X2_spanFirst [0, 1, 2] rfl (by decide) 0 rfl hl.1 rfl rfl (Nat.le_of_ble_eq_true rfl) ⟨Nat.le_of_ble_eq_true rfl, Nat.le_of_ble_eq_true rfl⟩ ⟨Nat.zero_le _, Nat.zero_le _⟩ dX2_seen_5) rfl rfl rfl (fun H locs hw => ?_)
  refine lv_aload_n hx hb dX2_seen_8 rfl (lv_at hl 0 rfl) ?_
  refine x_go (ws' := [(h 0, .inr (2, [.ref (h 1), .ref (h 2), .ref (h 7), .ref (h 8)])), (h 2, .inr (5, [.int (nI L), .ref (h 3), .ref (h 4), .ref (h 5), .ref (h 6)])), (h 7, .inr (6, [.int (nI t.1), .int t.2.1, .int t.2.2.1, .int t.2.2.2.1, .int t.2.2.2.2.1, .int t.2.2.2.2.2.1, .int t.2.2.2.2.2.2.1, .int t.2.2.2.2.2.2.2])), (h 8, .inr (0, [.ref (h 9), .ref (h 10)])), (h 10, .inl (g.2.1, 200, .inl sq))]) (st1 := [.int (nI (kpt L ((t.2.2.2.2.1 + 999) / 1000))), .int (nI (kpt L (t.2.2.2.1 / 1000))), .ref (h 8)]) E hw [0, 1, 2] rfl (x_runV (rest := [.int (nI (kpt L (t.2.2.2.1 / 1000))), .ref (h 8)]) E hw (c_X2_spanLast l g h L t (by omega) (by omega)) km_X2_126 kv_X2_spanLast [0, 1, 2] rfl (by decide) 0 rfl hl.1 rfl rfl (Nat.le_of_ble_eq_true rfl) ⟨Nat.le_of_ble_eq_true rfl, Nat.le_of_ble_eq_true rfl⟩ ⟨Nat.zero_le _, Nat.zero_le _⟩ dX2_seen_9) rfl rfl rfl (fun H locs hw => ?_)
  refine x_go (ws' := [(h 0, .inr (2, [.ref (h 1), .ref (h 2), .ref (h 7), .ref (h 8)])), (h 2, .inr (5, [.int (nI L), .ref (h 3), .ref (h 4), .ref (h 5), .ref (h 6)])), (h 7, .inr (6, [.int (nI t.1), .int t.2.1, .int t.2.2.1, .int t.2.2.2.1, .int t.2.2.2.2.1, .int t.2.2.2.2.2.1, .int t.2.2.2.2.2.2.1, .int t.2.2.2.2.2.2.2])), (h 8, .inr (0, [.ref (h 9), .ref (h 10)])), (h 10, .inl (g.2.1, 200, .inl sq))]) (st1 := [.int (lsq sq (kpt L (t.2.2.2.1 / 1000)) ((kpt L ((t.2.2.2.2.1 + 999) / 1000)) - (kpt L (t.2.2.2.1 / 1000))))]) E hw [3, 4] rfl (x_runVN (rest := []) E hw (c_X0_leastSquare l g h sq (kpt L (t.2.2.2.1 / 1000)) (kpt L ((t.2.2.2.2.1 + 999) / 1000)) (Nat.lt_of_lt_of_le (kpt_lt hL1 hL) hL) (Nat.lt_of_lt_of_le (kpt_lt hL1 hL) hL)) km_X2_137 kv_X0_leastSquare [3, 4] rfl (by decide) 3 rfl hl.1 rfl rfl (Nat.le_of_ble_eq_true rfl) ⟨Nat.le_of_ble_eq_true rfl, Nat.le_of_ble_eq_true rfl⟩ ⟨Nat.zero_le _, Nat.zero_le _⟩ dX2_seen_12) rfl rfl rfl (fun H locs hw => ?_)
  refine x_go (ws' := [(h 0, .inr (2, [.ref (h 1), .ref (h 2), .ref (h 7), .ref (h 8)])), (h 2, .inr (5, [.int (nI L), .ref (h 3), .ref (h 4), .ref (h 5), .ref (h 6)])), (h 7, .inr (6, [.int (nI t.1), .int t.2.1, .int t.2.2.1, .int t.2.2.2.1, .int t.2.2.2.2.1, .int t.2.2.2.2.2.1, .int t.2.2.2.2.2.2.1, .int t.2.2.2.2.2.2.2])), (h 8, .inr (0, [.ref (h 9), .ref (h 10)])), (h 10, .inl (g.2.1, 200, .inl sq))]) (st1 := [.int (nI (rtL 15 0 (lsq sq (kpt L (t.2.2.2.1 / 1000)) ((kpt L ((t.2.2.2.2.1 + 999) / 1000)) - (kpt L (t.2.2.2.1 / 1000))))))]) E hw [] rfl (x_runSN (rest := []) E hw (c_X7_root l g (lsq sq (kpt L (t.2.2.2.1 / 1000)) ((kpt L ((t.2.2.2.2.1 + 999) / 1000)) - (kpt L (t.2.2.2.1 / 1000)))) ) km_X2_81 ks_X7_root [] rfl (by decide) hl.1 rfl rfl (Nat.le_of_ble_eq_true rfl) ⟨Nat.le_of_ble_eq_true rfl, Nat.le_of_ble_eq_true rfl⟩ ⟨Nat.zero_le _, Nat.zero_le _⟩ dX2_seen_15) rfl rfl rfl (fun H locs hw => ?_)
  exact xr_i hQ E hr hw dX2_seen_18 ⟨rfl, rfl⟩

set_option maxRecDepth 100000 in
set_option maxHeartbeats 4000000 in
theorem c_X2_gain (l : Launch) (g : xCfg) (h : Nat → Nat) (L : Nat) (gr : Nat → Int32) (st : Nat → Int32) (t : TV) (mo : Int32) (hd : Int32) (hf : t.1 < 200) : Ct l g yX2_gain cX2_gain 5 (some .int) (xR 2 34) [.ref (h 0), .int mo, .int hd] [(h 0, .inr (2, [.ref (h 1), .ref (h 2), .ref (h 7), .ref (h 8)])), (h 2, .inr (5, [.int (nI L), .ref (h 3), .ref (h 4), .ref (h 5), .ref (h 6)])), (h 4, .inl (g.2.1, 200, .inl gr)), (h 6, .inl (g.2.1, 7, .inl st)), (h 7, .inr (6, [.int (nI t.1), .int t.2.1, .int t.2.2.1, .int t.2.2.2.1, .int t.2.2.2.2.1, .int t.2.2.2.2.2.1, .int t.2.2.2.2.2.2.1, .int t.2.2.2.2.2.2.2]))] (is1 (some (.int (gnF mo hd (st 0) (st 1) (gr t.1)))) [(h 0, .inr (2, [.ref (h 1), .ref (h 2), .ref (h 7), .ref (h 8)])), (h 2, .inr (5, [.int (nI L), .ref (h 3), .ref (h 4), .ref (h 5), .ref (h 6)])), (h 4, .inl (g.2.1, 200, .inl gr)), (h 6, .inl (g.2.1, 7, .inl st)), (h 7, .inr (6, [.int (nI t.1), .int t.2.1, .int t.2.2.1, .int t.2.2.2.1, .int t.2.2.2.2.1, .int t.2.2.2.2.2.1, .int t.2.2.2.2.2.2.1, .int t.2.2.2.2.2.2.2]))]) := by
  refine Ct.walk (by decide) (Nat.le_of_ble_eq_true rfl) ?_
  intro p0 e0 s0 m0 below meth c0 A0 ls Q hQ E hr hnm hw hl
  have hx := E.x
  have hb := E.b
  have hl : lv_has ls 5 [(0, .ref (h 0)), (1, .int mo), (2, .int hd)] := hl
  refine lv_aload_n hx hb dX2_gain_0 rfl (lv_at hl 0 rfl) ?_
  refine x_get E hw kf_X2_22 0 rfl rfl dX2_gain_1 ?_
  refine x_getN E hw kf_X2_117 1 rfl rfl dX2_gain_4 ?_
  refine lv_iconst (v := 0) hx hb dX2_gain_7 (by decide) ?_
  refine x_ld (v := st 0) E hw 3 rfl 0 rfl (by omega) (by decide) rfl dX2_gain_8 ?_
  refine lv_istore_n (lv' := [(3, .int (st 0)), (0, .ref (h 0)), (1, .int mo), (2, .int hd)]) hx hb dX2_gain_9 rfl hl (by decide) rfl (fun ls hl => ?_)
  refine lv_aload_n hx hb dX2_gain_10 rfl (lv_at hl 1 rfl) ?_
  refine x_get E hw kf_X2_22 0 rfl rfl dX2_gain_11 ?_
  refine x_getN E hw kf_X2_62 1 rfl rfl dX2_gain_14 ?_
  refine lv_aload_n hx hb dX2_gain_17 rfl (lv_at hl 1 rfl) ?_
  refine x_get E hw kf_X2_27 0 rfl rfl dX2_gain_18 ?_
  refine x_getN E hw kf_X2_108 4 rfl rfl dX2_gain_21 ?_
  refine x_ld (v := gr t.1) E hw 2 rfl t.1 rfl (by omega) (by decide) rfl dX2_gain_24 ?_
  refine lv_istore (lv' := [(4, .int (gr t.1)), (3, .int (st 0)), (0, .ref (h 0)), (1, .int mo), (2, .int hd)]) hx hb dX2_gain_25 hl (by decide) rfl (fun ls hl => ?_)
  refine lv_iload_n hx hb dX2_gain_27 rfl (lv_at hl 3 rfl) ?_
  refine lv_iconst (v := 3) hx hb dX2_gain_28 (by decide) ?_
  refine lv_icmp_ne (tgt := 48) hx hb dX2_gain_29 (by decide) (fun c_1 => ?_) (fun c_1 => ?_)
  · refine lv_iload_n hx hb dX2_gain_48 rfl (lv_at hl 3 rfl) ?_
    refine lv_iconst (v := 2) hx hb dX2_gain_49 (by decide) ?_
    refine lv_icmp_ne (tgt := 63) hx hb dX2_gain_50 (by decide) (fun c_2 => ?_) (fun c_2 => ?_)
    · refine lv_iload_n hx hb dX2_gain_63 rfl (lv_at hl 4 rfl) ?_
      refine lv_if_ge (tgt := 75) hx hb dX2_gain_64 (by decide) (fun c_3 => ?_) (fun c_3 => ?_)
      · refine lv_iload_n hx hb dX2_gain_75 rfl (lv_at hl 4 rfl) ?_
        refine lv_if_ne (tgt := 85) hx hb dX2_gain_76 (by decide) (fun c_4 => ?_) (fun c_4 => ?_)
        · refine lv_aload_n hx hb dX2_gain_85 rfl (lv_at hl 2 rfl) ?_
          refine x_get E hw kf_X2_22 0 rfl rfl dX2_gain_86 ?_
          refine x_getN E hw kf_X2_117 1 rfl rfl dX2_gain_89 ?_
          refine lv_iconst (v := 1) hx hb dX2_gain_92 (by decide) ?_
          refine x_ld (v := st 1) E hw 3 rfl 1 rfl (by omega) (by decide) rfl dX2_gain_93 ?_
          refine lv_iload hx hb dX2_gain_94 (lv_at hl 0 rfl) ?_
          refine lv_isub hx hb dX2_gain_96 ?_
          exact xr_i hQ E hr hw dX2_gain_97 ⟨congrArg (fun z => some (Value.int z)) (by simp only [gnF, if_neg c_1, if_neg c_2, if_pos c_3, if_neg c_4]), rfl⟩
        · refine lv_iload hx hb dX2_gain_79 (lv_at hl 0 rfl) ?_
          refine lv_ineg hx hb dX2_gain_81 ?_
          refine lv_goto (tgt := 97) hx hb dX2_gain_82 (by decide) ?_
          exact xr_i hQ E hr hw dX2_gain_97 ⟨congrArg (fun z => some (Value.int z)) (by simp only [gnF, if_neg c_1, if_neg c_2, if_pos c_3, if_pos c_4]), rfl⟩
      · refine lv_iload_n hx hb dX2_gain_67 rfl (lv_at hl 1 rfl) ?_
        refine lv_iconst (v := 2) hx hb dX2_gain_68 (by decide) ?_
        refine lv_idiv hx hb dX2_gain_69 (by decide) ?_
        refine lv_ineg hx hb dX2_gain_70 ?_
        refine lv_iload hx hb dX2_gain_71 (lv_at hl 0 rfl) ?_
        refine lv_isub hx hb dX2_gain_73 ?_
        exact xr_i hQ E hr hw dX2_gain_74 ⟨congrArg (fun z => some (Value.int z)) (by simp only [gnF, if_neg c_1, if_neg c_2, if_neg c_3]), rfl⟩
    · refine lv_iconst (v := 3) hx hb dX2_gain_53 (by decide) ?_
      refine lv_iload_n hx hb dX2_gain_54 rfl (lv_at hl 1 rfl) ?_
      refine lv_imul hx hb dX2_gain_55 ?_
      refine lv_iconst (v := 4) hx hb dX2_gain_56 (by decide) ?_
      refine lv_idiv hx hb dX2_gain_57 (by decide) ?_
      refine lv_ineg hx hb dX2_gain_58 ?_
      refine lv_iload hx hb dX2_gain_59 (lv_at hl 0 rfl) ?_
      refine lv_isub hx hb dX2_gain_61 ?_
      exact xr_i hQ E hr hw dX2_gain_62 ⟨congrArg (fun z => some (Value.int z)) (by simp only [gnF, if_neg c_1, if_pos c_2]), rfl⟩
  · refine lv_aload_n hx hb dX2_gain_32 rfl (lv_at hl 2 rfl) ?_
    refine x_get E hw kf_X2_22 0 rfl rfl dX2_gain_33 ?_
    refine lv_aload_n hx hb dX2_gain_36 rfl (lv_at hl 2 rfl) ?_
    refine x_get E hw kf_X2_27 0 rfl rfl dX2_gain_37 ?_
    refine x_getN E hw kf_X2_108 4 rfl rfl dX2_gain_40 ?_
    refine x_go (ws' := [(h 0, .inr (2, [.ref (h 1), .ref (h 2), .ref (h 7), .ref (h 8)])), (h 2, .inr (5, [.int (nI L), .ref (h 3), .ref (h 4), .ref (h 5), .ref (h 6)])), (h 4, .inl (g.2.1, 200, .inl gr)), (h 6, .inl (g.2.1, 7, .inl st)), (h 7, .inr (6, [.int (nI t.1), .int t.2.1, .int t.2.2.1, .int t.2.2.2.1, .int t.2.2.2.2.1, .int t.2.2.2.2.2.1, .int t.2.2.2.2.2.2.1, .int t.2.2.2.2.2.2.2]))]) (st1 := [.int (dcl (st 0) (gr t.1))]) E hw [1, 2, 3] rfl (x_runVN (rest := []) E hw (c_X5_decel l g h L gr st t.1 (by omega)) km_X2_68 kv_X5_decel [1, 2, 3] rfl (by decide) 1 rfl hl.1 rfl rfl (Nat.le_of_ble_eq_true rfl) ⟨Nat.le_of_ble_eq_true rfl, Nat.le_of_ble_eq_true rfl⟩ ⟨Nat.zero_le _, Nat.zero_le _⟩ dX2_gain_43) rfl rfl rfl (fun H locs hw => ?_)
    refine lv_ineg hx hb dX2_gain_46 ?_
    exact xr_i hQ E hr hw dX2_gain_47 ⟨congrArg (fun z => some (Value.int z)) (by simp only [gnF, if_pos c_1]), rfl⟩

set_option maxRecDepth 100000 in
set_option maxHeartbeats 4000000 in
theorem c_X2_supervises (l : Launch) (g : xCfg) (h : Nat → Nat) (L : Nat) (st : Nat → Int32) (t : TV) (sq : Nat → Int32) (hL1 : 1 ≤ L) (hL : L ≤ 200) : Ct l g yX2_supervises cX2_supervises 2 none (xR 4 75) [.ref (h 0)] [(h 0, .inr (2, [.ref (h 1), .ref (h 2), .ref (h 7), .ref (h 8)])), (h 2, .inr (5, [.int (nI L), .ref (h 3), .ref (h 4), .ref (h 5), .ref (h 6)])), (h 6, .inl (g.2.1, 7, .inl st)), (h 7, .inr (6, [.int (nI t.1), .int t.2.1, .int t.2.2.1, .int t.2.2.2.1, .int t.2.2.2.2.1, .int t.2.2.2.2.2.1, .int t.2.2.2.2.2.2.1, .int t.2.2.2.2.2.2.2])), (h 8, .inr (0, [.ref (h 9), .ref (h 10)])), (h 10, .inl (g.2.1, 200, .inl sq))] (is1 none [(h 0, .inr (2, [.ref (h 1), .ref (h 2), .ref (h 7), .ref (h 8)])), (h 2, .inr (5, [.int (nI L), .ref (h 3), .ref (h 4), .ref (h 5), .ref (h 6)])), (h 6, .inl (g.2.1, 7, .inl st)), (h 7, .inr (6, [.int (nI ((supT L st sq t).1)), .int ((supT L st sq t).2.1), .int ((supT L st sq t).2.2.1), .int ((supT L st sq t).2.2.2.1), .int ((supT L st sq t).2.2.2.2.1), .int ((supT L st sq t).2.2.2.2.2.1), .int ((supT L st sq t).2.2.2.2.2.2.1), .int ((supT L st sq t).2.2.2.2.2.2.2)])), (h 8, .inr (0, [.ref (h 9), .ref (h 10)])), (h 10, .inl (g.2.1, 200, .inl sq))]) := by
  refine Ct.walk (by decide) (Nat.le_of_ble_eq_true rfl) ?_
  intro p0 e0 s0 m0 below meth c0 A0 ls Q hQ E hr hnm hw hl
  have hx := E.x
  have hb := E.b
  have hl : lv_has ls 2 [(0, .ref (h 0))] := hl
  refine lv_aload_n hx hb dX2_supervises_0 rfl (lv_at hl 0 rfl) ?_
  refine x_get E hw kf_X2_27 0 rfl rfl dX2_supervises_1 ?_
  refine x_getN E hw kf_X2_91 3 rfl rfl dX2_supervises_4 ?_
  refine lv_iconst (v := 3) hx hb dX2_supervises_7 (by decide) ?_
  refine lv_icmp_ne (tgt := 12) hx hb dX2_supervises_8 (by decide) (fun c_1 => ?_) (fun c_1 => ?_)
  · refine lv_aload_n hx hb dX2_supervises_12 rfl (lv_at hl 0 rfl) ?_
    refine x_get E hw kf_X2_27 0 rfl rfl dX2_supervises_13 ?_
    refine x_getN E hw kf_X2_101 3 rfl rfl dX2_supervises_16 ?_
    refine x_go (ws' := [(h 0, .inr (2, [.ref (h 1), .ref (h 2), .ref (h 7), .ref (h 8)])), (h 2, .inr (5, [.int (nI L), .ref (h 3), .ref (h 4), .ref (h 5), .ref (h 6)])), (h 6, .inl (g.2.1, 7, .inl st)), (h 7, .inr (6, [.int (nI t.1), .int t.2.1, .int t.2.2.1, .int t.2.2.2.1, .int t.2.2.2.2.1, .int t.2.2.2.2.2.1, .int t.2.2.2.2.2.2.1, .int t.2.2.2.2.2.2.2])), (h 8, .inr (0, [.ref (h 9), .ref (h 10)])), (h 10, .inl (g.2.1, 200, .inl sq))]) (st1 := [.int (nI (rtL 15 0 t.2.1))]) E hw [] rfl (x_runSN (rest := []) E hw (c_X7_root l g t.2.1 ) km_X2_81 ks_X7_root [] rfl (by decide) hl.1 rfl rfl (Nat.le_of_ble_eq_true rfl) ⟨Nat.le_of_ble_eq_true rfl, Nat.le_of_ble_eq_true rfl⟩ ⟨Nat.zero_le _, Nat.zero_le _⟩ dX2_supervises_19) rfl rfl rfl (fun H locs hw => ?_)
    refine lv_aload_n hx hb dX2_supervises_22 rfl (lv_at hl 0 rfl) ?_
    refine x_go (ws' := [(h 0, .inr (2, [.ref (h 1), .ref (h 2), .ref (h 7), .ref (h 8)])), (h 2, .inr (5, [.int (nI L), .ref (h 3), .ref (h 4), .ref (h 5), .ref (h 6)])), (h 6, .inl (g.2.1, 7, .inl st)), (h 7, .inr (6, [.int (nI t.1), .int t.2.1, .int t.2.2.1, .int t.2.2.2.1, .int t.2.2.2.2.1, .int t.2.2.2.2.2.1, .int t.2.2.2.2.2.2.1, .int t.2.2.2.2.2.2.2])), (h 8, .inr (0, [.ref (h 9), .ref (h 10)])), (h 10, .inl (g.2.1, 200, .inl sq))]) (st1 := [.int (nI (seenN L t.2.2.2.1 t.2.2.2.2.1 sq)), .int (nI (rtL 15 0 t.2.1))]) E hw [0, 1, 3, 4, 5] rfl (x_runV (rest := [.int (nI (rtL 15 0 t.2.1))]) E hw (c_X2_seen l g h L t sq (by omega) (by omega)) km_X2_120 kv_X2_seen [0, 1, 3, 4, 5] rfl (by decide) 0 rfl hl.1 rfl rfl (Nat.le_of_ble_eq_true rfl) ⟨Nat.le_of_ble_eq_true rfl, Nat.le_of_ble_eq_true rfl⟩ ⟨Nat.zero_le _, Nat.zero_le _⟩ dX2_supervises_23) rfl rfl rfl (fun H locs hw => ?_)
    refine lv_isub hx hb dX2_supervises_26 ?_
    refine x_top (v' := .int (abv L sq t)) rfl ?_
    refine lv_istore_n (lv' := [(1, .int (abv L sq t)), (0, .ref (h 0))]) hx hb dX2_supervises_27 rfl hl (by decide) rfl (fun ls hl => ?_)
    refine lv_iload_n hx hb dX2_supervises_28 rfl (lv_at hl 0 rfl) ?_
    refine lv_aload_n hx hb dX2_supervises_29 rfl (lv_at hl 1 rfl) ?_
    refine x_get E hw kf_X2_22 0 rfl rfl dX2_supervises_30 ?_
    refine x_getN E hw kf_X2_117 1 rfl rfl dX2_supervises_33 ?_
    refine lv_bipush (v := 6) hx hb dX2_supervises_36 (by decide) ?_
    refine x_ld (v := st 6) E hw 2 rfl 6 rfl (by omega) (by decide) rfl dX2_supervises_38 ?_
    refine lv_icmp_le (tgt := 66) hx hb dX2_supervises_39 (by decide) (fun c_2 => ?_) (fun c_2 => ?_)
    · refine lv_iload_n hx hb dX2_supervises_66 rfl (lv_at hl 0 rfl) ?_
      refine lv_aload_n hx hb dX2_supervises_67 rfl (lv_at hl 1 rfl) ?_
      refine x_get E hw kf_X2_22 0 rfl rfl dX2_supervises_68 ?_
      refine x_getN E hw kf_X2_117 1 rfl rfl dX2_supervises_71 ?_
      refine lv_iconst (v := 5) hx hb dX2_supervises_74 (by decide) ?_
      refine x_ld (v := st 5) E hw 2 rfl 5 rfl (by omega) (by decide) rfl dX2_supervises_75 ?_
      refine lv_icmp_le (tgt := 90) hx hb dX2_supervises_76 (by decide) (fun c_3 => ?_) (fun c_3 => ?_)
      · refine lv_iload_n hx hb dX2_supervises_90 rfl (lv_at hl 0 rfl) ?_
        refine lv_aload_n hx hb dX2_supervises_91 rfl (lv_at hl 1 rfl) ?_
        refine x_get E hw kf_X2_22 0 rfl rfl dX2_supervises_92 ?_
        refine x_getN E hw kf_X2_117 1 rfl rfl dX2_supervises_95 ?_
        refine lv_iconst (v := 4) hx hb dX2_supervises_98 (by decide) ?_
        refine x_ld (v := st 4) E hw 2 rfl 4 rfl (by omega) (by decide) rfl dX2_supervises_99 ?_
        refine lv_icmp_le (tgt := 129) hx hb dX2_supervises_100 (by decide) (fun c_4 => ?_) (fun c_4 => ?_)
        · refine lv_aload_n hx hb dX2_supervises_129 rfl (lv_at hl 1 rfl) ?_
          refine x_get E hw kf_X2_27 0 rfl rfl dX2_supervises_130 ?_
          refine lv_iconst (v := 0) hx hb dX2_supervises_133 (by decide) ?_
          refine x_putN E hw kf_X2_91 kp_X6_2 3 rfl (ty := .int) (by decide +kernel) rfl rfl (by simp) (ws' := [(h 0, .inr (2, [.ref (h 1), .ref (h 2), .ref (h 7), .ref (h 8)])), (h 2, .inr (5, [.int (nI L), .ref (h 3), .ref (h 4), .ref (h 5), .ref (h 6)])), (h 6, .inl (g.2.1, 7, .inl st)), (h 7, .inr (6, [.int (nI t.1), .int t.2.1, .int 0, .int t.2.2.2.1, .int t.2.2.2.2.1, .int t.2.2.2.2.2.1, .int t.2.2.2.2.2.2.1, .int t.2.2.2.2.2.2.2])), (h 8, .inr (0, [.ref (h 9), .ref (h 10)])), (h 10, .inl (g.2.1, 200, .inl sq))]) rfl dX2_supervises_134 (fun H locs hw => ?_)
          exact xr_v hQ E hr hw dX2_supervises_137 ⟨rfl, (by simp only [supT, supM, supA, if_neg c_1, if_pos c_2, if_pos c_3, if_pos c_4])⟩
        · refine lv_aload_n hx hb dX2_supervises_103 rfl (lv_at hl 1 rfl) ?_
          refine x_get E hw kf_X2_27 0 rfl rfl dX2_supervises_104 ?_
          refine lv_aload_n hx hb dX2_supervises_107 rfl (lv_at hl 1 rfl) ?_
          refine x_get E hw kf_X2_27 0 rfl rfl dX2_supervises_108 ?_
          refine x_getN E hw kf_X2_91 3 rfl rfl dX2_supervises_111 ?_
          refine lv_iconst (v := 2) hx hb dX2_supervises_114 (by decide) ?_
          refine lv_icmp_ne (tgt := 122) hx hb dX2_supervises_115 (by decide) (fun c_5 => ?_) (fun c_5 => ?_)
          · refine lv_iconst (v := 1) hx hb dX2_supervises_122 (by decide) ?_
            refine x_putN E hw kf_X2_91 kp_X6_2 3 rfl (ty := .int) (by decide +kernel) rfl rfl (by simp) (ws' := [(h 0, .inr (2, [.ref (h 1), .ref (h 2), .ref (h 7), .ref (h 8)])), (h 2, .inr (5, [.int (nI L), .ref (h 3), .ref (h 4), .ref (h 5), .ref (h 6)])), (h 6, .inl (g.2.1, 7, .inl st)), (h 7, .inr (6, [.int (nI t.1), .int t.2.1, .int 1, .int t.2.2.2.1, .int t.2.2.2.2.1, .int t.2.2.2.2.2.1, .int t.2.2.2.2.2.2.1, .int t.2.2.2.2.2.2.2])), (h 8, .inr (0, [.ref (h 9), .ref (h 10)])), (h 10, .inl (g.2.1, 200, .inl sq))]) rfl dX2_supervises_123 (fun H locs hw => ?_)
            refine lv_goto (tgt := 137) hx hb dX2_supervises_126 (by decide) ?_
            exact xr_v hQ E hr hw dX2_supervises_137 ⟨rfl, (by simp only [supT, supM, supA, if_neg c_1, if_pos c_2, if_pos c_3, if_neg c_4, if_neg c_5])⟩
          · refine lv_iconst (v := 2) hx hb dX2_supervises_118 (by decide) ?_
            refine lv_goto (tgt := 123) hx hb dX2_supervises_119 (by decide) ?_
            refine x_putN E hw kf_X2_91 kp_X6_2 3 rfl (ty := .int) (by decide +kernel) rfl rfl (by simp) (ws' := [(h 0, .inr (2, [.ref (h 1), .ref (h 2), .ref (h 7), .ref (h 8)])), (h 2, .inr (5, [.int (nI L), .ref (h 3), .ref (h 4), .ref (h 5), .ref (h 6)])), (h 6, .inl (g.2.1, 7, .inl st)), (h 7, .inr (6, [.int (nI t.1), .int t.2.1, .int 2, .int t.2.2.2.1, .int t.2.2.2.2.1, .int t.2.2.2.2.2.1, .int t.2.2.2.2.2.2.1, .int t.2.2.2.2.2.2.2])), (h 8, .inr (0, [.ref (h 9), .ref (h 10)])), (h 10, .inl (g.2.1, 200, .inl sq))]) rfl dX2_supervises_123 (fun H locs hw => ?_)
            refine lv_goto (tgt := 137) hx hb dX2_supervises_126 (by decide) ?_
            exact xr_v hQ E hr hw dX2_supervises_137 ⟨rfl, (by simp only [supT, supM, supA, if_neg c_1, if_pos c_2, if_pos c_3, if_neg c_4, if_pos c_5])⟩
      · refine lv_aload_n hx hb dX2_supervises_79 rfl (lv_at hl 1 rfl) ?_
        refine x_get E hw kf_X2_27 0 rfl rfl dX2_supervises_80 ?_
        refine lv_iconst (v := 2) hx hb dX2_supervises_83 (by decide) ?_
        refine x_putN E hw kf_X2_91 kp_X6_2 3 rfl (ty := .int) (by decide +kernel) rfl rfl (by simp) (ws' := [(h 0, .inr (2, [.ref (h 1), .ref (h 2), .ref (h 7), .ref (h 8)])), (h 2, .inr (5, [.int (nI L), .ref (h 3), .ref (h 4), .ref (h 5), .ref (h 6)])), (h 6, .inl (g.2.1, 7, .inl st)), (h 7, .inr (6, [.int (nI t.1), .int t.2.1, .int 2, .int t.2.2.2.1, .int t.2.2.2.2.1, .int t.2.2.2.2.2.1, .int t.2.2.2.2.2.2.1, .int t.2.2.2.2.2.2.2])), (h 8, .inr (0, [.ref (h 9), .ref (h 10)])), (h 10, .inl (g.2.1, 200, .inl sq))]) rfl dX2_supervises_84 (fun H locs hw => ?_)
        refine lv_goto (tgt := 137) hx hb dX2_supervises_87 (by decide) ?_
        exact xr_v hQ E hr hw dX2_supervises_137 ⟨rfl, (by simp only [supT, supM, supA, if_neg c_1, if_pos c_2, if_neg c_3])⟩
    · refine lv_aload_n hx hb dX2_supervises_42 rfl (lv_at hl 1 rfl) ?_
      refine x_get E hw kf_X2_27 0 rfl rfl dX2_supervises_43 ?_
      refine lv_iconst (v := 3) hx hb dX2_supervises_46 (by decide) ?_
      refine x_putN E hw kf_X2_91 kp_X6_2 3 rfl (ty := .int) (by decide +kernel) rfl rfl (by simp) (ws' := [(h 0, .inr (2, [.ref (h 1), .ref (h 2), .ref (h 7), .ref (h 8)])), (h 2, .inr (5, [.int (nI L), .ref (h 3), .ref (h 4), .ref (h 5), .ref (h 6)])), (h 6, .inl (g.2.1, 7, .inl st)), (h 7, .inr (6, [.int (nI t.1), .int t.2.1, .int 3, .int t.2.2.2.1, .int t.2.2.2.2.1, .int t.2.2.2.2.2.1, .int t.2.2.2.2.2.2.1, .int t.2.2.2.2.2.2.2])), (h 8, .inr (0, [.ref (h 9), .ref (h 10)])), (h 10, .inl (g.2.1, 200, .inl sq))]) rfl dX2_supervises_47 (fun H locs hw => ?_)
      refine lv_aload_n hx hb dX2_supervises_50 rfl (lv_at hl 1 rfl) ?_
      refine x_get E hw kf_X2_27 0 rfl rfl dX2_supervises_51 ?_
      refine lv_dup hx hb dX2_supervises_54 rfl ?_
      refine x_getN E hw kf_X2_123 3 rfl rfl dX2_supervises_55 ?_
      refine lv_iconst (v := 1) hx hb dX2_supervises_58 (by decide) ?_
      refine lv_iadd hx hb dX2_supervises_59 ?_
      refine x_putN E hw kf_X2_123 kp_X6_5 3 rfl (ty := .int) (by decide +kernel) rfl rfl (by simp) (ws' := [(h 0, .inr (2, [.ref (h 1), .ref (h 2), .ref (h 7), .ref (h 8)])), (h 2, .inr (5, [.int (nI L), .ref (h 3), .ref (h 4), .ref (h 5), .ref (h 6)])), (h 6, .inl (g.2.1, 7, .inl st)), (h 7, .inr (6, [.int (nI t.1), .int t.2.1, .int 3, .int t.2.2.2.1, .int t.2.2.2.2.1, .int (t.2.2.2.2.2.1 + 1), .int t.2.2.2.2.2.2.1, .int t.2.2.2.2.2.2.2])), (h 8, .inr (0, [.ref (h 9), .ref (h 10)])), (h 10, .inl (g.2.1, 200, .inl sq))]) rfl dX2_supervises_60 (fun H locs hw => ?_)
      refine lv_goto (tgt := 137) hx hb dX2_supervises_63 (by decide) ?_
      exact xr_v hQ E hr hw dX2_supervises_137 ⟨rfl, (by simp only [supT, supM, supA, if_neg c_1, if_neg c_2])⟩
  · exact xr_v hQ E hr hw dX2_supervises_11 ⟨rfl, (by simp only [supT, supM, supA, if_pos c_1])⟩

set_option maxRecDepth 100000 in
set_option maxHeartbeats 4000000 in
theorem c_X2_goesOn (l : Launch) (g : xCfg) (h : Nat → Nat) (L : Nat) (gr : Nat → Int32) (be : Nat → Int32) (st : Nat → Int32) (t : TV) (sq : Nat → Int32) (hd : Int32) (hL : L ≤ 200) (hf : t.1 < L) : Ct l g yX2_goesOn cX2_goesOn 5 (some .boolean) (xR 5 96) [.ref (h 0), .int hd] [(h 0, .inr (2, [.ref (h 1), .ref (h 2), .ref (h 7), .ref (h 8)])), (h 2, .inr (5, [.int (nI L), .ref (h 3), .ref (h 4), .ref (h 5), .ref (h 6)])), (h 4, .inl (g.2.1, 200, .inl gr)), (h 5, .inl (g.2.1, 200, .inl be)), (h 6, .inl (g.2.1, 7, .inl st)), (h 7, .inr (6, [.int (nI t.1), .int t.2.1, .int t.2.2.1, .int t.2.2.2.1, .int t.2.2.2.2.1, .int t.2.2.2.2.2.1, .int t.2.2.2.2.2.2.1, .int t.2.2.2.2.2.2.2])), (h 8, .inr (0, [.ref (h 9), .ref (h 10)])), (h 10, .inl (g.2.1, 200, .inl sq))] (is1 (some (.int (bI (stpP L gr st hd t)))) [(h 0, .inr (2, [.ref (h 1), .ref (h 2), .ref (h 7), .ref (h 8)])), (h 2, .inr (5, [.int (nI L), .ref (h 3), .ref (h 4), .ref (h 5), .ref (h 6)])), (h 4, .inl (g.2.1, 200, .inl gr)), (h 5, .inl (g.2.1, 200, .inl be)), (h 6, .inl (g.2.1, 7, .inl st)), (h 7, .inr (6, [.int (nI ((stpT L gr be st sq hd t).1)), .int ((stpT L gr be st sq hd t).2.1), .int ((stpT L gr be st sq hd t).2.2.1), .int ((stpT L gr be st sq hd t).2.2.2.1), .int ((stpT L gr be st sq hd t).2.2.2.2.1), .int ((stpT L gr be st sq hd t).2.2.2.2.2.1), .int ((stpT L gr be st sq hd t).2.2.2.2.2.2.1), .int ((stpT L gr be st sq hd t).2.2.2.2.2.2.2)])), (h 8, .inr (0, [.ref (h 9), .ref (h 10)])), (h 10, .inl (g.2.1, 200, .inl sq))]) := by
  refine Ct.walk (by decide) (Nat.le_of_ble_eq_true rfl) ?_
  intro p0 e0 s0 m0 below meth c0 A0 ls Q hQ E hr hnm hw hl
  have hx := E.x
  have hb := E.b
  have hl : lv_has ls 5 [(0, .ref (h 0)), (1, .int hd)] := hl
  refine lv_aload_n hx hb dX2_goesOn_0 rfl (lv_at hl 0 rfl) ?_
  refine x_get E hw kf_X2_27 0 rfl rfl dX2_goesOn_1 ?_
  refine x_getN E hw kf_X2_101 5 rfl rfl dX2_goesOn_4 ?_
  refine lv_aload_n hx hb dX2_goesOn_7 rfl (lv_at hl 0 rfl) ?_
  refine lv_aload_n hx hb dX2_goesOn_8 rfl (lv_at hl 0 rfl) ?_
  refine x_get E hw kf_X2_27 0 rfl rfl dX2_goesOn_9 ?_
  refine x_getN E hw kf_X2_91 5 rfl rfl dX2_goesOn_12 ?_
  refine lv_iload_n hx hb dX2_goesOn_15 rfl (lv_at hl 1 rfl) ?_
  refine x_go (ws' := [(h 0, .inr (2, [.ref (h 1), .ref (h 2), .ref (h 7), .ref (h 8)])), (h 2, .inr (5, [.int (nI L), .ref (h 3), .ref (h 4), .ref (h 5), .ref (h 6)])), (h 4, .inl (g.2.1, 200, .inl gr)), (h 5, .inl (g.2.1, 200, .inl be)), (h 6, .inl (g.2.1, 7, .inl st)), (h 7, .inr (6, [.int (nI t.1), .int t.2.1, .int t.2.2.1, .int t.2.2.2.1, .int t.2.2.2.2.1, .int t.2.2.2.2.2.1, .int t.2.2.2.2.2.2.1, .int t.2.2.2.2.2.2.2])), (h 8, .inr (0, [.ref (h 9), .ref (h 10)])), (h 10, .inl (g.2.1, 200, .inl sq))]) (st1 := [.int (gnF t.2.2.1 hd (st 0) (st 1) (gr t.1)), .int t.2.1]) E hw [0, 1, 2, 4, 5] rfl (x_runV (rest := [.int t.2.1]) E hw (c_X2_gain l g h L gr st t t.2.2.1 hd (by omega)) km_X2_104 kv_X2_gain [0, 1, 2, 4, 5] rfl (by decide) 0 rfl hl.1 rfl rfl (Nat.le_of_ble_eq_true rfl) ⟨Nat.le_of_ble_eq_true rfl, Nat.le_of_ble_eq_true rfl⟩ ⟨Nat.zero_le _, Nat.zero_le _⟩ dX2_goesOn_16) rfl rfl rfl (fun H locs hw => ?_)
  refine lv_iadd hx hb dX2_goesOn_19 ?_
  refine x_top (v' := .int (nqF gr st hd t)) rfl ?_
  refine lv_istore_n (lv' := [(2, .int (nqF gr st hd t)), (0, .ref (h 0)), (1, .int hd)]) hx hb dX2_goesOn_20 rfl hl (by decide) rfl (fun ls hl => ?_)
  refine lv_aload_n hx hb dX2_goesOn_21 rfl (lv_at hl 1 rfl) ?_
  refine x_get E hw kf_X2_27 0 rfl rfl dX2_goesOn_22 ?_
  refine x_getN E hw kf_X2_108 5 rfl rfl dX2_goesOn_25 ?_
  refine lv_aload_n hx hb dX2_goesOn_28 rfl (lv_at hl 1 rfl) ?_
  refine x_get E hw kf_X2_22 0 rfl rfl dX2_goesOn_29 ?_
  refine x_getN E hw kf_X2_74 1 rfl rfl dX2_goesOn_32 ?_
  refine lv_iconst (v := 1) hx hb dX2_goesOn_35 (by decide) ?_
  refine xn_sub hx hb L 1 rfl rfl (by omega) dX2_goesOn_36 ?_
  refine xn_lt (tgt := 44) hx hb t.1 (L - 1) rfl rfl (by omega) (by omega) dX2_goesOn_37 (by decide) (fun cf => ?_) (fun cf => ?_)
  · refine lv_iconst (v := 0) hx hb dX2_goesOn_44 (by decide) ?_
    refine lv_istore_n (lv' := [(3, .int 0), (2, .int (nqF gr st hd t)), (0, .ref (h 0)), (1, .int hd)]) hx hb dX2_goesOn_45 rfl hl (by decide) rfl (fun ls hl => ?_)
    refine lv_iload_n hx hb dX2_goesOn_46 rfl (lv_at hl 1 rfl) ?_
    refine lv_if_le (tgt := 58) hx hb dX2_goesOn_47 (by decide) (fun cq => ?_) (fun cq => ?_)
    · refine lv_iconst (v := 0) hx hb dX2_goesOn_58 (by decide) ?_
      refine lv_istore (lv' := [(4, .int 0), (3, .int 0), (2, .int (nqF gr st hd t)), (0, .ref (h 0)), (1, .int hd)]) hx hb dX2_goesOn_59 hl (by decide) rfl (fun ls hl => ?_)
      refine lv_iload hx hb dX2_goesOn_61 (lv_at hl 0 rfl) ?_
      refine lv_if_eq (tgt := 81) hx hb dX2_goesOn_63 (by decide) (fun _ => ?_) (fun h => absurd h (by decide))
      refine lv_aload_n hx hb dX2_goesOn_81 rfl (lv_at hl 3 rfl) ?_
      refine x_get E hw kf_X2_27 0 rfl rfl dX2_goesOn_82 ?_
      refine lv_iconst (v := 0) hx hb dX2_goesOn_85 (by decide) ?_
      refine x_putN E hw kf_X2_101 kp_X6_1 5 rfl (ty := .int) (by decide +kernel) rfl rfl (by simp) (ws' := [(h 0, .inr (2, [.ref (h 1), .ref (h 2), .ref (h 7), .ref (h 8)])), (h 2, .inr (5, [.int (nI L), .ref (h 3), .ref (h 4), .ref (h 5), .ref (h 6)])), (h 4, .inl (g.2.1, 200, .inl gr)), (h 5, .inl (g.2.1, 200, .inl be)), (h 6, .inl (g.2.1, 7, .inl st)), (h 7, .inr (6, [.int (nI t.1), .int 0, .int t.2.2.1, .int t.2.2.2.1, .int t.2.2.2.2.1, .int t.2.2.2.2.2.1, .int t.2.2.2.2.2.2.1, .int t.2.2.2.2.2.2.2])), (h 8, .inr (0, [.ref (h 9), .ref (h 10)])), (h 10, .inl (g.2.1, 200, .inl sq))]) rfl dX2_goesOn_86 (fun H locs hw => ?_)
      refine lv_iload_n hx hb dX2_goesOn_89 rfl (lv_at hl 2 rfl) ?_
      refine lv_if_le (tgt := 106) hx hb dX2_goesOn_90 (by decide) (fun cr => ?_) (fun cr => ?_)
      · refine lv_aload_n hx hb dX2_goesOn_106 rfl (lv_at hl 3 rfl) ?_
        refine x_go (ws' := [(h 0, .inr (2, [.ref (h 1), .ref (h 2), .ref (h 7), .ref (h 8)])), (h 2, .inr (5, [.int (nI L), .ref (h 3), .ref (h 4), .ref (h 5), .ref (h 6)])), (h 4, .inl (g.2.1, 200, .inl gr)), (h 5, .inl (g.2.1, 200, .inl be)), (h 6, .inl (g.2.1, 7, .inl st)), (h 7, .inr (6, [.int (nI ((supT L st sq (t.1, 0, t.2.2.1, t.2.2.2.1, t.2.2.2.2.1, t.2.2.2.2.2.1, t.2.2.2.2.2.2.1, t.2.2.2.2.2.2.2)).1)), .int ((supT L st sq (t.1, 0, t.2.2.1, t.2.2.2.1, t.2.2.2.2.1, t.2.2.2.2.2.1, t.2.2.2.2.2.2.1, t.2.2.2.2.2.2.2)).2.1), .int ((supT L st sq (t.1, 0, t.2.2.1, t.2.2.2.1, t.2.2.2.2.1, t.2.2.2.2.2.1, t.2.2.2.2.2.2.1, t.2.2.2.2.2.2.2)).2.2.1), .int ((supT L st sq (t.1, 0, t.2.2.1, t.2.2.2.1, t.2.2.2.2.1, t.2.2.2.2.2.1, t.2.2.2.2.2.2.1, t.2.2.2.2.2.2.2)).2.2.2.1), .int ((supT L st sq (t.1, 0, t.2.2.1, t.2.2.2.1, t.2.2.2.2.1, t.2.2.2.2.2.1, t.2.2.2.2.2.2.1, t.2.2.2.2.2.2.2)).2.2.2.2.1), .int ((supT L st sq (t.1, 0, t.2.2.1, t.2.2.2.1, t.2.2.2.2.1, t.2.2.2.2.2.1, t.2.2.2.2.2.2.1, t.2.2.2.2.2.2.2)).2.2.2.2.2.1), .int ((supT L st sq (t.1, 0, t.2.2.1, t.2.2.2.1, t.2.2.2.2.1, t.2.2.2.2.2.1, t.2.2.2.2.2.2.1, t.2.2.2.2.2.2.2)).2.2.2.2.2.2.1), .int ((supT L st sq (t.1, 0, t.2.2.1, t.2.2.2.1, t.2.2.2.2.1, t.2.2.2.2.2.1, t.2.2.2.2.2.2.1, t.2.2.2.2.2.2.2)).2.2.2.2.2.2.2)])), (h 8, .inr (0, [.ref (h 9), .ref (h 10)])), (h 10, .inl (g.2.1, 200, .inl sq))]) (st1 := []) E hw [0, 1, 4, 5, 6, 7] rfl (x_runV (rest := []) E hw (c_X2_supervises l g h L st (t.1, 0, t.2.2.1, t.2.2.2.1, t.2.2.2.2.1, t.2.2.2.2.2.1, t.2.2.2.2.2.2.1, t.2.2.2.2.2.2.2) sq (by omega) (by omega)) km_X2_88 kv_X2_supervises [0, 1, 4, 5, 6, 7] rfl (by decide) 0 rfl hl.1 rfl rfl (Nat.le_of_ble_eq_true rfl) ⟨Nat.le_of_ble_eq_true rfl, Nat.le_of_ble_eq_true rfl⟩ ⟨Nat.zero_le _, Nat.zero_le _⟩ dX2_goesOn_107) rfl rfl rfl (fun H locs hw => ?_)
        refine lv_iload hx hb dX2_goesOn_110 (lv_at hl 0 rfl) ?_
        exact xr_z hQ E hr hw dX2_goesOn_112 (by decide) ⟨congrArg (fun z => some (Value.int z)) ((bI_f (fun z => z.1 cr)).symm), (by rw [stpT_0 cr] <;> rfl)⟩
      · exact absurd cq cr
    · refine lv_iload_n hx hb dX2_goesOn_50 rfl (lv_at hl 0 rfl) ?_
      refine lv_if_ne (tgt := 58) hx hb dX2_goesOn_51 (by decide) (fun h => absurd h (by decide)) (fun _ => ?_)
      refine lv_iconst (v := 1) hx hb dX2_goesOn_54 (by decide) ?_
      refine lv_goto (tgt := 59) hx hb dX2_goesOn_55 (by decide) ?_
      refine lv_istore (lv' := [(4, .int 1), (3, .int 0), (2, .int (nqF gr st hd t)), (0, .ref (h 0)), (1, .int hd)]) hx hb dX2_goesOn_59 hl (by decide) rfl (fun ls hl => ?_)
      refine lv_iload hx hb dX2_goesOn_61 (lv_at hl 0 rfl) ?_
      refine lv_if_eq (tgt := 81) hx hb dX2_goesOn_63 (by decide) (fun h => absurd h (by decide)) (fun _ => ?_)
      refine lv_aload_n hx hb dX2_goesOn_66 rfl (lv_at hl 3 rfl) ?_
      refine x_get E hw kf_X2_27 0 rfl rfl dX2_goesOn_67 ?_
      refine lv_iload_n hx hb dX2_goesOn_70 rfl (lv_at hl 2 rfl) ?_
      refine lv_aload_n hx hb dX2_goesOn_71 rfl (lv_at hl 3 rfl) ?_
      refine x_get E hw kf_X2_22 0 rfl rfl dX2_goesOn_72 ?_
      refine x_go (ws' := [(h 0, .inr (2, [.ref (h 1), .ref (h 2), .ref (h 7), .ref (h 8)])), (h 2, .inr (5, [.int (nI L), .ref (h 3), .ref (h 4), .ref (h 5), .ref (h 6)])), (h 4, .inl (g.2.1, 200, .inl gr)), (h 5, .inl (g.2.1, 200, .inl be)), (h 6, .inl (g.2.1, 7, .inl st)), (h 7, .inr (6, [.int (nI (t.1 + 1)), .int (nqF gr st hd t), .int t.2.2.1, .int (if be (t.1 + 1) = 1 then nI (1000 * (t.1 + 1)) else t.2.2.2.1 + (1000 - st 3)), .int (if be (t.1 + 1) = 1 then nI (1000 * (t.1 + 1)) else t.2.2.2.2.1 + (1000 + st 3)), .int t.2.2.2.2.2.1, .int t.2.2.2.2.2.2.1, .int (t.2.2.2.2.2.2.2 + 1)])), (h 8, .inr (0, [.ref (h 9), .ref (h 10)])), (h 10, .inl (g.2.1, 200, .inl sq))]) (st1 := []) E hw [5, 1, 3, 4] rfl (x_runVN (rest := []) E hw (c_X6_goesOn l g h t.1 t.2.1 t.2.2.1 t.2.2.2.1 t.2.2.2.2.1 t.2.2.2.2.2.1 t.2.2.2.2.2.2.1 t.2.2.2.2.2.2.2 (nqF gr st hd t) L be st (by omega)) km_X2_111 kv_X6_goesOn [5, 1, 3, 4] rfl (by decide) 5 rfl hl.1 rfl rfl (Nat.le_of_ble_eq_true rfl) ⟨Nat.le_of_ble_eq_true rfl, Nat.le_of_ble_eq_true rfl⟩ ⟨Nat.zero_le _, Nat.zero_le _⟩ dX2_goesOn_75) rfl rfl rfl (fun H locs hw => ?_)
      refine lv_goto (tgt := 106) hx hb dX2_goesOn_78 (by decide) ?_
      refine lv_aload_n hx hb dX2_goesOn_106 rfl (lv_at hl 3 rfl) ?_
      refine x_go (ws' := [(h 0, .inr (2, [.ref (h 1), .ref (h 2), .ref (h 7), .ref (h 8)])), (h 2, .inr (5, [.int (nI L), .ref (h 3), .ref (h 4), .ref (h 5), .ref (h 6)])), (h 4, .inl (g.2.1, 200, .inl gr)), (h 5, .inl (g.2.1, 200, .inl be)), (h 6, .inl (g.2.1, 7, .inl st)), (h 7, .inr (6, [.int (nI ((supT L st sq (t.1 + 1, nqF gr st hd t, t.2.2.1, if be (t.1 + 1) = 1 then nI (1000 * (t.1 + 1)) else t.2.2.2.1 + (1000 - st 3), if be (t.1 + 1) = 1 then nI (1000 * (t.1 + 1)) else t.2.2.2.2.1 + (1000 + st 3), t.2.2.2.2.2.1, t.2.2.2.2.2.2.1, t.2.2.2.2.2.2.2 + 1)).1)), .int ((supT L st sq (t.1 + 1, nqF gr st hd t, t.2.2.1, if be (t.1 + 1) = 1 then nI (1000 * (t.1 + 1)) else t.2.2.2.1 + (1000 - st 3), if be (t.1 + 1) = 1 then nI (1000 * (t.1 + 1)) else t.2.2.2.2.1 + (1000 + st 3), t.2.2.2.2.2.1, t.2.2.2.2.2.2.1, t.2.2.2.2.2.2.2 + 1)).2.1), .int ((supT L st sq (t.1 + 1, nqF gr st hd t, t.2.2.1, if be (t.1 + 1) = 1 then nI (1000 * (t.1 + 1)) else t.2.2.2.1 + (1000 - st 3), if be (t.1 + 1) = 1 then nI (1000 * (t.1 + 1)) else t.2.2.2.2.1 + (1000 + st 3), t.2.2.2.2.2.1, t.2.2.2.2.2.2.1, t.2.2.2.2.2.2.2 + 1)).2.2.1), .int ((supT L st sq (t.1 + 1, nqF gr st hd t, t.2.2.1, if be (t.1 + 1) = 1 then nI (1000 * (t.1 + 1)) else t.2.2.2.1 + (1000 - st 3), if be (t.1 + 1) = 1 then nI (1000 * (t.1 + 1)) else t.2.2.2.2.1 + (1000 + st 3), t.2.2.2.2.2.1, t.2.2.2.2.2.2.1, t.2.2.2.2.2.2.2 + 1)).2.2.2.1), .int ((supT L st sq (t.1 + 1, nqF gr st hd t, t.2.2.1, if be (t.1 + 1) = 1 then nI (1000 * (t.1 + 1)) else t.2.2.2.1 + (1000 - st 3), if be (t.1 + 1) = 1 then nI (1000 * (t.1 + 1)) else t.2.2.2.2.1 + (1000 + st 3), t.2.2.2.2.2.1, t.2.2.2.2.2.2.1, t.2.2.2.2.2.2.2 + 1)).2.2.2.2.1), .int ((supT L st sq (t.1 + 1, nqF gr st hd t, t.2.2.1, if be (t.1 + 1) = 1 then nI (1000 * (t.1 + 1)) else t.2.2.2.1 + (1000 - st 3), if be (t.1 + 1) = 1 then nI (1000 * (t.1 + 1)) else t.2.2.2.2.1 + (1000 + st 3), t.2.2.2.2.2.1, t.2.2.2.2.2.2.1, t.2.2.2.2.2.2.2 + 1)).2.2.2.2.2.1), .int ((supT L st sq (t.1 + 1, nqF gr st hd t, t.2.2.1, if be (t.1 + 1) = 1 then nI (1000 * (t.1 + 1)) else t.2.2.2.1 + (1000 - st 3), if be (t.1 + 1) = 1 then nI (1000 * (t.1 + 1)) else t.2.2.2.2.1 + (1000 + st 3), t.2.2.2.2.2.1, t.2.2.2.2.2.2.1, t.2.2.2.2.2.2.2 + 1)).2.2.2.2.2.2.1), .int ((supT L st sq (t.1 + 1, nqF gr st hd t, t.2.2.1, if be (t.1 + 1) = 1 then nI (1000 * (t.1 + 1)) else t.2.2.2.1 + (1000 - st 3), if be (t.1 + 1) = 1 then nI (1000 * (t.1 + 1)) else t.2.2.2.2.1 + (1000 + st 3), t.2.2.2.2.2.1, t.2.2.2.2.2.2.1, t.2.2.2.2.2.2.2 + 1)).2.2.2.2.2.2.2)])), (h 8, .inr (0, [.ref (h 9), .ref (h 10)])), (h 10, .inl (g.2.1, 200, .inl sq))]) (st1 := []) E hw [0, 1, 4, 5, 6, 7] rfl (x_runV (rest := []) E hw (c_X2_supervises l g h L st (t.1 + 1, nqF gr st hd t, t.2.2.1, if be (t.1 + 1) = 1 then nI (1000 * (t.1 + 1)) else t.2.2.2.1 + (1000 - st 3), if be (t.1 + 1) = 1 then nI (1000 * (t.1 + 1)) else t.2.2.2.2.1 + (1000 + st 3), t.2.2.2.2.2.1, t.2.2.2.2.2.2.1, t.2.2.2.2.2.2.2 + 1) sq (by omega) (by omega)) km_X2_88 kv_X2_supervises [0, 1, 4, 5, 6, 7] rfl (by decide) 0 rfl hl.1 rfl rfl (Nat.le_of_ble_eq_true rfl) ⟨Nat.le_of_ble_eq_true rfl, Nat.le_of_ble_eq_true rfl⟩ ⟨Nat.zero_le _, Nat.zero_le _⟩ dX2_goesOn_107) rfl rfl rfl (fun H locs hw => ?_)
      refine lv_iload hx hb dX2_goesOn_110 (lv_at hl 0 rfl) ?_
      exact xr_z hQ E hr hw dX2_goesOn_112 (by decide) ⟨congrArg (fun z => some (Value.int z)) ((bI_t ⟨cq, cf⟩).symm), (by rw [stpT_go ⟨cq, cf⟩] <;> rfl)⟩
  · refine lv_iconst (v := 1) hx hb dX2_goesOn_40 (by decide) ?_
    refine lv_goto (tgt := 45) hx hb dX2_goesOn_41 (by decide) ?_
    refine lv_istore_n (lv' := [(3, .int 1), (2, .int (nqF gr st hd t)), (0, .ref (h 0)), (1, .int hd)]) hx hb dX2_goesOn_45 rfl hl (by decide) rfl (fun ls hl => ?_)
    refine lv_iload_n hx hb dX2_goesOn_46 rfl (lv_at hl 1 rfl) ?_
    refine lv_if_le (tgt := 58) hx hb dX2_goesOn_47 (by decide) (fun cq => ?_) (fun cq => ?_)
    · refine lv_iconst (v := 0) hx hb dX2_goesOn_58 (by decide) ?_
      refine lv_istore (lv' := [(4, .int 0), (3, .int 1), (2, .int (nqF gr st hd t)), (0, .ref (h 0)), (1, .int hd)]) hx hb dX2_goesOn_59 hl (by decide) rfl (fun ls hl => ?_)
      refine lv_iload hx hb dX2_goesOn_61 (lv_at hl 0 rfl) ?_
      refine lv_if_eq (tgt := 81) hx hb dX2_goesOn_63 (by decide) (fun _ => ?_) (fun h => absurd h (by decide))
      refine lv_aload_n hx hb dX2_goesOn_81 rfl (lv_at hl 3 rfl) ?_
      refine x_get E hw kf_X2_27 0 rfl rfl dX2_goesOn_82 ?_
      refine lv_iconst (v := 0) hx hb dX2_goesOn_85 (by decide) ?_
      refine x_putN E hw kf_X2_101 kp_X6_1 5 rfl (ty := .int) (by decide +kernel) rfl rfl (by simp) (ws' := [(h 0, .inr (2, [.ref (h 1), .ref (h 2), .ref (h 7), .ref (h 8)])), (h 2, .inr (5, [.int (nI L), .ref (h 3), .ref (h 4), .ref (h 5), .ref (h 6)])), (h 4, .inl (g.2.1, 200, .inl gr)), (h 5, .inl (g.2.1, 200, .inl be)), (h 6, .inl (g.2.1, 7, .inl st)), (h 7, .inr (6, [.int (nI t.1), .int 0, .int t.2.2.1, .int t.2.2.2.1, .int t.2.2.2.2.1, .int t.2.2.2.2.2.1, .int t.2.2.2.2.2.2.1, .int t.2.2.2.2.2.2.2])), (h 8, .inr (0, [.ref (h 9), .ref (h 10)])), (h 10, .inl (g.2.1, 200, .inl sq))]) rfl dX2_goesOn_86 (fun H locs hw => ?_)
      refine lv_iload_n hx hb dX2_goesOn_89 rfl (lv_at hl 2 rfl) ?_
      refine lv_if_le (tgt := 106) hx hb dX2_goesOn_90 (by decide) (fun cr => ?_) (fun cr => ?_)
      · refine lv_aload_n hx hb dX2_goesOn_106 rfl (lv_at hl 3 rfl) ?_
        refine x_go (ws' := [(h 0, .inr (2, [.ref (h 1), .ref (h 2), .ref (h 7), .ref (h 8)])), (h 2, .inr (5, [.int (nI L), .ref (h 3), .ref (h 4), .ref (h 5), .ref (h 6)])), (h 4, .inl (g.2.1, 200, .inl gr)), (h 5, .inl (g.2.1, 200, .inl be)), (h 6, .inl (g.2.1, 7, .inl st)), (h 7, .inr (6, [.int (nI ((supT L st sq (t.1, 0, t.2.2.1, t.2.2.2.1, t.2.2.2.2.1, t.2.2.2.2.2.1, t.2.2.2.2.2.2.1, t.2.2.2.2.2.2.2)).1)), .int ((supT L st sq (t.1, 0, t.2.2.1, t.2.2.2.1, t.2.2.2.2.1, t.2.2.2.2.2.1, t.2.2.2.2.2.2.1, t.2.2.2.2.2.2.2)).2.1), .int ((supT L st sq (t.1, 0, t.2.2.1, t.2.2.2.1, t.2.2.2.2.1, t.2.2.2.2.2.1, t.2.2.2.2.2.2.1, t.2.2.2.2.2.2.2)).2.2.1), .int ((supT L st sq (t.1, 0, t.2.2.1, t.2.2.2.1, t.2.2.2.2.1, t.2.2.2.2.2.1, t.2.2.2.2.2.2.1, t.2.2.2.2.2.2.2)).2.2.2.1), .int ((supT L st sq (t.1, 0, t.2.2.1, t.2.2.2.1, t.2.2.2.2.1, t.2.2.2.2.2.1, t.2.2.2.2.2.2.1, t.2.2.2.2.2.2.2)).2.2.2.2.1), .int ((supT L st sq (t.1, 0, t.2.2.1, t.2.2.2.1, t.2.2.2.2.1, t.2.2.2.2.2.1, t.2.2.2.2.2.2.1, t.2.2.2.2.2.2.2)).2.2.2.2.2.1), .int ((supT L st sq (t.1, 0, t.2.2.1, t.2.2.2.1, t.2.2.2.2.1, t.2.2.2.2.2.1, t.2.2.2.2.2.2.1, t.2.2.2.2.2.2.2)).2.2.2.2.2.2.1), .int ((supT L st sq (t.1, 0, t.2.2.1, t.2.2.2.1, t.2.2.2.2.1, t.2.2.2.2.2.1, t.2.2.2.2.2.2.1, t.2.2.2.2.2.2.2)).2.2.2.2.2.2.2)])), (h 8, .inr (0, [.ref (h 9), .ref (h 10)])), (h 10, .inl (g.2.1, 200, .inl sq))]) (st1 := []) E hw [0, 1, 4, 5, 6, 7] rfl (x_runV (rest := []) E hw (c_X2_supervises l g h L st (t.1, 0, t.2.2.1, t.2.2.2.1, t.2.2.2.2.1, t.2.2.2.2.2.1, t.2.2.2.2.2.2.1, t.2.2.2.2.2.2.2) sq (by omega) (by omega)) km_X2_88 kv_X2_supervises [0, 1, 4, 5, 6, 7] rfl (by decide) 0 rfl hl.1 rfl rfl (Nat.le_of_ble_eq_true rfl) ⟨Nat.le_of_ble_eq_true rfl, Nat.le_of_ble_eq_true rfl⟩ ⟨Nat.zero_le _, Nat.zero_le _⟩ dX2_goesOn_107) rfl rfl rfl (fun H locs hw => ?_)
        refine lv_iload hx hb dX2_goesOn_110 (lv_at hl 0 rfl) ?_
        exact xr_z hQ E hr hw dX2_goesOn_112 (by decide) ⟨congrArg (fun z => some (Value.int z)) ((bI_f (fun z => z.1 cr)).symm), (by rw [stpT_0 cr] <;> rfl)⟩
      · exact absurd cq cr
    · refine lv_iload_n hx hb dX2_goesOn_50 rfl (lv_at hl 0 rfl) ?_
      refine lv_if_ne (tgt := 58) hx hb dX2_goesOn_51 (by decide) (fun _ => ?_) (fun h => absurd h (by decide))
      refine lv_iconst (v := 0) hx hb dX2_goesOn_58 (by decide) ?_
      refine lv_istore (lv' := [(4, .int 0), (3, .int 1), (2, .int (nqF gr st hd t)), (0, .ref (h 0)), (1, .int hd)]) hx hb dX2_goesOn_59 hl (by decide) rfl (fun ls hl => ?_)
      refine lv_iload hx hb dX2_goesOn_61 (lv_at hl 0 rfl) ?_
      refine lv_if_eq (tgt := 81) hx hb dX2_goesOn_63 (by decide) (fun _ => ?_) (fun h => absurd h (by decide))
      refine lv_aload_n hx hb dX2_goesOn_81 rfl (lv_at hl 3 rfl) ?_
      refine x_get E hw kf_X2_27 0 rfl rfl dX2_goesOn_82 ?_
      refine lv_iconst (v := 0) hx hb dX2_goesOn_85 (by decide) ?_
      refine x_putN E hw kf_X2_101 kp_X6_1 5 rfl (ty := .int) (by decide +kernel) rfl rfl (by simp) (ws' := [(h 0, .inr (2, [.ref (h 1), .ref (h 2), .ref (h 7), .ref (h 8)])), (h 2, .inr (5, [.int (nI L), .ref (h 3), .ref (h 4), .ref (h 5), .ref (h 6)])), (h 4, .inl (g.2.1, 200, .inl gr)), (h 5, .inl (g.2.1, 200, .inl be)), (h 6, .inl (g.2.1, 7, .inl st)), (h 7, .inr (6, [.int (nI t.1), .int 0, .int t.2.2.1, .int t.2.2.2.1, .int t.2.2.2.2.1, .int t.2.2.2.2.2.1, .int t.2.2.2.2.2.2.1, .int t.2.2.2.2.2.2.2])), (h 8, .inr (0, [.ref (h 9), .ref (h 10)])), (h 10, .inl (g.2.1, 200, .inl sq))]) rfl dX2_goesOn_86 (fun H locs hw => ?_)
      refine lv_iload_n hx hb dX2_goesOn_89 rfl (lv_at hl 2 rfl) ?_
      refine lv_if_le (tgt := 106) hx hb dX2_goesOn_90 (by decide) (fun cr => ?_) (fun cr => ?_)
      · exact absurd cr cq
      · refine lv_aload_n hx hb dX2_goesOn_93 rfl (lv_at hl 3 rfl) ?_
        refine x_get E hw kf_X2_27 0 rfl rfl dX2_goesOn_94 ?_
        refine lv_dup hx hb dX2_goesOn_97 rfl ?_
        refine x_getN E hw kf_X2_114 5 rfl rfl dX2_goesOn_98 ?_
        refine lv_iconst (v := 1) hx hb dX2_goesOn_101 (by decide) ?_
        refine lv_iadd hx hb dX2_goesOn_102 ?_
        refine x_putN E hw kf_X2_114 kp_X6_6 5 rfl (ty := .int) (by decide +kernel) rfl rfl (by simp) (ws' := [(h 0, .inr (2, [.ref (h 1), .ref (h 2), .ref (h 7), .ref (h 8)])), (h 2, .inr (5, [.int (nI L), .ref (h 3), .ref (h 4), .ref (h 5), .ref (h 6)])), (h 4, .inl (g.2.1, 200, .inl gr)), (h 5, .inl (g.2.1, 200, .inl be)), (h 6, .inl (g.2.1, 7, .inl st)), (h 7, .inr (6, [.int (nI t.1), .int 0, .int t.2.2.1, .int t.2.2.2.1, .int t.2.2.2.2.1, .int t.2.2.2.2.2.1, .int (t.2.2.2.2.2.2.1 + 1), .int t.2.2.2.2.2.2.2])), (h 8, .inr (0, [.ref (h 9), .ref (h 10)])), (h 10, .inl (g.2.1, 200, .inl sq))]) rfl dX2_goesOn_103 (fun H locs hw => ?_)
        refine lv_aload_n hx hb dX2_goesOn_106 rfl (lv_at hl 3 rfl) ?_
        refine x_go (ws' := [(h 0, .inr (2, [.ref (h 1), .ref (h 2), .ref (h 7), .ref (h 8)])), (h 2, .inr (5, [.int (nI L), .ref (h 3), .ref (h 4), .ref (h 5), .ref (h 6)])), (h 4, .inl (g.2.1, 200, .inl gr)), (h 5, .inl (g.2.1, 200, .inl be)), (h 6, .inl (g.2.1, 7, .inl st)), (h 7, .inr (6, [.int (nI ((supT L st sq (t.1, 0, t.2.2.1, t.2.2.2.1, t.2.2.2.2.1, t.2.2.2.2.2.1, t.2.2.2.2.2.2.1 + 1, t.2.2.2.2.2.2.2)).1)), .int ((supT L st sq (t.1, 0, t.2.2.1, t.2.2.2.1, t.2.2.2.2.1, t.2.2.2.2.2.1, t.2.2.2.2.2.2.1 + 1, t.2.2.2.2.2.2.2)).2.1), .int ((supT L st sq (t.1, 0, t.2.2.1, t.2.2.2.1, t.2.2.2.2.1, t.2.2.2.2.2.1, t.2.2.2.2.2.2.1 + 1, t.2.2.2.2.2.2.2)).2.2.1), .int ((supT L st sq (t.1, 0, t.2.2.1, t.2.2.2.1, t.2.2.2.2.1, t.2.2.2.2.2.1, t.2.2.2.2.2.2.1 + 1, t.2.2.2.2.2.2.2)).2.2.2.1), .int ((supT L st sq (t.1, 0, t.2.2.1, t.2.2.2.1, t.2.2.2.2.1, t.2.2.2.2.2.1, t.2.2.2.2.2.2.1 + 1, t.2.2.2.2.2.2.2)).2.2.2.2.1), .int ((supT L st sq (t.1, 0, t.2.2.1, t.2.2.2.1, t.2.2.2.2.1, t.2.2.2.2.2.1, t.2.2.2.2.2.2.1 + 1, t.2.2.2.2.2.2.2)).2.2.2.2.2.1), .int ((supT L st sq (t.1, 0, t.2.2.1, t.2.2.2.1, t.2.2.2.2.1, t.2.2.2.2.2.1, t.2.2.2.2.2.2.1 + 1, t.2.2.2.2.2.2.2)).2.2.2.2.2.2.1), .int ((supT L st sq (t.1, 0, t.2.2.1, t.2.2.2.1, t.2.2.2.2.1, t.2.2.2.2.2.1, t.2.2.2.2.2.2.1 + 1, t.2.2.2.2.2.2.2)).2.2.2.2.2.2.2)])), (h 8, .inr (0, [.ref (h 9), .ref (h 10)])), (h 10, .inl (g.2.1, 200, .inl sq))]) (st1 := []) E hw [0, 1, 4, 5, 6, 7] rfl (x_runV (rest := []) E hw (c_X2_supervises l g h L st (t.1, 0, t.2.2.1, t.2.2.2.1, t.2.2.2.2.1, t.2.2.2.2.2.1, t.2.2.2.2.2.2.1 + 1, t.2.2.2.2.2.2.2) sq (by omega) (by omega)) km_X2_88 kv_X2_supervises [0, 1, 4, 5, 6, 7] rfl (by decide) 0 rfl hl.1 rfl rfl (Nat.le_of_ble_eq_true rfl) ⟨Nat.le_of_ble_eq_true rfl, Nat.le_of_ble_eq_true rfl⟩ ⟨Nat.zero_le _, Nat.zero_le _⟩ dX2_goesOn_107) rfl rfl rfl (fun H locs hw => ?_)
        refine lv_iload hx hb dX2_goesOn_110 (lv_at hl 0 rfl) ?_
        exact xr_z hQ E hr hw dX2_goesOn_112 (by decide) ⟨congrArg (fun z => some (Value.int z)) ((bI_f (fun z => absurd z.2 (by omega))).symm), (by rw [stpT_end cr (by omega)] <;> rfl)⟩

set_option maxRecDepth 100000 in
set_option maxHeartbeats 4000000 in
theorem c_X2_driverHandle (l : Launch) (g : xCfg) (h : Nat → Nat) (L : Nat) (gr : Nat → Int32) (st : Nat → Int32) (t : TV) (sq : Nat → Int32) (hL1 : 1 ≤ L) (hL : L ≤ 200) (hf : t.1 < 200) : Ct l g yX2_driverHandle cX2_driverHandle 4 (some .int) (xR 3 58) [.ref (h 0)] [(h 0, .inr (2, [.ref (h 1), .ref (h 2), .ref (h 7), .ref (h 8)])), (h 2, .inr (5, [.int (nI L), .ref (h 3), .ref (h 4), .ref (h 5), .ref (h 6)])), (h 4, .inl (g.2.1, 200, .inl gr)), (h 6, .inl (g.2.1, 7, .inl st)), (h 7, .inr (6, [.int (nI t.1), .int t.2.1, .int t.2.2.1, .int t.2.2.2.1, .int t.2.2.2.2.1, .int t.2.2.2.2.2.1, .int t.2.2.2.2.2.2.1, .int t.2.2.2.2.2.2.2])), (h 8, .inr (0, [.ref (h 9), .ref (h 10)])), (h 10, .inl (g.2.1, 200, .inl sq))] (is1 (some (.int (drvH L gr st sq t))) [(h 0, .inr (2, [.ref (h 1), .ref (h 2), .ref (h 7), .ref (h 8)])), (h 2, .inr (5, [.int (nI L), .ref (h 3), .ref (h 4), .ref (h 5), .ref (h 6)])), (h 4, .inl (g.2.1, 200, .inl gr)), (h 6, .inl (g.2.1, 7, .inl st)), (h 7, .inr (6, [.int (nI t.1), .int t.2.1, .int t.2.2.1, .int t.2.2.2.1, .int t.2.2.2.2.1, .int t.2.2.2.2.2.1, .int t.2.2.2.2.2.2.1, .int t.2.2.2.2.2.2.2])), (h 8, .inr (0, [.ref (h 9), .ref (h 10)])), (h 10, .inl (g.2.1, 200, .inl sq))]) := by
  refine Ct.walk (by decide) (Nat.le_of_ble_eq_true rfl) ?_
  intro p0 e0 s0 m0 below meth c0 A0 ls Q hQ E hr hnm hw hl
  have hx := E.x
  have hb := E.b
  have hl : lv_has ls 4 [(0, .ref (h 0))] := hl
  refine lv_aload_n hx hb dX2_driverHandle_0 rfl (lv_at hl 0 rfl) ?_
  refine x_go (ws' := [(h 0, .inr (2, [.ref (h 1), .ref (h 2), .ref (h 7), .ref (h 8)])), (h 2, .inr (5, [.int (nI L), .ref (h 3), .ref (h 4), .ref (h 5), .ref (h 6)])), (h 4, .inl (g.2.1, 200, .inl gr)), (h 6, .inl (g.2.1, 7, .inl st)), (h 7, .inr (6, [.int (nI t.1), .int t.2.1, .int t.2.2.1, .int t.2.2.2.1, .int t.2.2.2.2.1, .int t.2.2.2.2.2.1, .int t.2.2.2.2.2.2.1, .int t.2.2.2.2.2.2.2])), (h 8, .inr (0, [.ref (h 9), .ref (h 10)])), (h 10, .inl (g.2.1, 200, .inl sq))]) (st1 := [.int (nI (kpt L ((t.2.2.2.2.1 + 999) / 1000)))]) E hw [0, 1, 4] rfl (x_runV (rest := []) E hw (c_X2_spanLast l g h L t (by omega) (by omega)) km_X2_126 kv_X2_spanLast [0, 1, 4] rfl (by decide) 0 rfl hl.1 rfl rfl (Nat.le_of_ble_eq_true rfl) ⟨Nat.le_of_ble_eq_true rfl, Nat.le_of_ble_eq_true rfl⟩ ⟨Nat.zero_le _, Nat.zero_le _⟩ dX2_driverHandle_1) rfl rfl rfl (fun H locs hw => ?_)
  refine lv_iconst (v := 1) hx hb dX2_driverHandle_4 (by decide) ?_
  refine xn_add hx hb (kpt L ((t.2.2.2.2.1 + 999) / 1000)) 1 rfl rfl dX2_driverHandle_5 ?_
  refine lv_aload_n hx hb dX2_driverHandle_6 rfl (lv_at hl 0 rfl) ?_
  refine x_get E hw kf_X2_22 0 rfl rfl dX2_driverHandle_7 ?_
  refine x_getN E hw kf_X2_74 1 rfl rfl dX2_driverHandle_10 ?_
  refine lv_iconst (v := 1) hx hb dX2_driverHandle_13 (by decide) ?_
  refine xn_sub hx hb L 1 rfl rfl (by omega) dX2_driverHandle_14 ?_
  refine x_min E km_X2_129 hl.1 (Nat.le_of_ble_eq_true rfl) (Nat.le_of_ble_eq_true rfl) ⟨Nat.zero_le _, Nat.zero_le _⟩ dX2_driverHandle_15 ?_
  refine x_top (v' := .int (nI (min (kpt L ((t.2.2.2.2.1 + 999) / 1000) + 1) (L - 1)))) (congrArg Value.int (minN (by have := kpt_lt (x := (t.2.2.2.2.1 + 999) / 1000) hL1 hL; omega) (by omega))) ?_
  refine lv_istore_n (lv' := [(1, .int (nI (min (kpt L ((t.2.2.2.2.1 + 999) / 1000) + 1) (L - 1)))), (0, .ref (h 0))]) hx hb dX2_driverHandle_18 rfl hl (by decide) rfl (fun ls hl => ?_)
  refine lv_aload_n hx hb dX2_driverHandle_19 rfl (lv_at hl 1 rfl) ?_
  refine x_get E hw kf_X2_31 0 rfl rfl dX2_driverHandle_20 ?_
  refine lv_aload_n hx hb dX2_driverHandle_23 rfl (lv_at hl 1 rfl) ?_
  refine x_go (ws' := [(h 0, .inr (2, [.ref (h 1), .ref (h 2), .ref (h 7), .ref (h 8)])), (h 2, .inr (5, [.int (nI L), .ref (h 3), .ref (h 4), .ref (h 5), .ref (h 6)])), (h 4, .inl (g.2.1, 200, .inl gr)), (h 6, .inl (g.2.1, 7, .inl st)), (h 7, .inr (6, [.int (nI t.1), .int t.2.1, .int t.2.2.1, .int t.2.2.2.1, .int t.2.2.2.2.1, .int t.2.2.2.2.2.1, .int t.2.2.2.2.2.2.1, .int t.2.2.2.2.2.2.2])), (h 8, .inr (0, [.ref (h 9), .ref (h 10)])), (h 10, .inl (g.2.1, 200, .inl sq))]) (st1 := [.int (nI (kpt L (t.2.2.2.1 / 1000))), .ref (h 8)]) E hw [0, 1, 4] rfl (x_runV (rest := [.ref (h 8)]) E hw (c_X2_spanFirst l g h L t (by omega) (by omega)) km_X2_134 kv_X2_spanFirst [0, 1, 4] rfl (by decide) 0 rfl hl.1 rfl rfl (Nat.le_of_ble_eq_true rfl) ⟨Nat.le_of_ble_eq_true rfl, Nat.le_of_ble_eq_true rfl⟩ ⟨Nat.zero_le _, Nat.zero_le _⟩ dX2_driverHandle_24) rfl rfl rfl (fun H locs hw => ?_)
  refine lv_iload_n hx hb dX2_driverHandle_27 rfl (lv_at hl 0 rfl) ?_
  refine x_go (ws' := [(h 0, .inr (2, [.ref (h 1), .ref (h 2), .ref (h 7), .ref (h 8)])), (h 2, .inr (5, [.int (nI L), .ref (h 3), .ref (h 4), .ref (h 5), .ref (h 6)])), (h 4, .inl (g.2.1, 200, .inl gr)), (h 6, .inl (g.2.1, 7, .inl st)), (h 7, .inr (6, [.int (nI t.1), .int t.2.1, .int t.2.2.1, .int t.2.2.2.1, .int t.2.2.2.2.1, .int t.2.2.2.2.2.1, .int t.2.2.2.2.2.2.1, .int t.2.2.2.2.2.2.2])), (h 8, .inr (0, [.ref (h 9), .ref (h 10)])), (h 10, .inl (g.2.1, 200, .inl sq))]) (st1 := [.int (lsq sq (kpt L (t.2.2.2.1 / 1000)) ((min (kpt L ((t.2.2.2.2.1 + 999) / 1000) + 1) (L - 1)) - (kpt L (t.2.2.2.1 / 1000))))]) E hw [5, 6] rfl (x_runVN (rest := []) E hw (c_X0_leastSquare l g h sq (kpt L (t.2.2.2.1 / 1000)) (min (kpt L ((t.2.2.2.2.1 + 999) / 1000) + 1) (L - 1)) (Nat.lt_of_lt_of_le (kpt_lt hL1 hL) hL) (by have := Nat.min_le_right (kpt L ((t.2.2.2.2.1 + 999) / 1000) + 1) (L - 1); omega)) km_X2_137 kv_X0_leastSquare [5, 6] rfl (by decide) 5 rfl hl.1 rfl rfl (Nat.le_of_ble_eq_true rfl) ⟨Nat.le_of_ble_eq_true rfl, Nat.le_of_ble_eq_true rfl⟩ ⟨Nat.zero_le _, Nat.zero_le _⟩ dX2_driverHandle_28) rfl rfl rfl (fun H locs hw => ?_)
  refine x_top (v' := .int (mostF L sq t)) rfl ?_
  refine lv_istore_n (lv' := [(2, .int (mostF L sq t)), (1, .int (nI (min (kpt L ((t.2.2.2.2.1 + 999) / 1000) + 1) (L - 1)))), (0, .ref (h 0))]) hx hb dX2_driverHandle_31 rfl hl (by decide) rfl (fun ls hl => ?_)
  refine lv_iconst (v := 1) hx hb dX2_driverHandle_32 (by decide) ?_
  refine lv_istore_n (lv' := [(3, .int 1), (2, .int (mostF L sq t)), (1, .int (nI (min (kpt L ((t.2.2.2.2.1 + 999) / 1000) + 1) (L - 1)))), (0, .ref (h 0))]) hx hb dX2_driverHandle_33 rfl hl (by decide) rfl (fun ls hl => ?_)
  refine lv_iload_n hx hb dX2_driverHandle_34 rfl (lv_at hl 0 rfl) ?_
  refine lv_if_lt (tgt := 64) hx hb dX2_driverHandle_35 (by decide) (fun h => absurd h (by decide)) (fun _ => ?_)
  refine lv_aload_n hx hb dX2_driverHandle_38 rfl (lv_at hl 3 rfl) ?_
  refine x_get E hw kf_X2_27 0 rfl rfl dX2_driverHandle_39 ?_
  refine x_getN E hw kf_X2_101 4 rfl rfl dX2_driverHandle_42 ?_
  refine lv_aload_n hx hb dX2_driverHandle_45 rfl (lv_at hl 3 rfl) ?_
  refine lv_iconst (v := 0) hx hb dX2_driverHandle_46 (by decide) ?_
  refine lv_iload_n hx hb dX2_driverHandle_47 rfl (lv_at hl 0 rfl) ?_
  refine x_go (ws' := [(h 0, .inr (2, [.ref (h 1), .ref (h 2), .ref (h 7), .ref (h 8)])), (h 2, .inr (5, [.int (nI L), .ref (h 3), .ref (h 4), .ref (h 5), .ref (h 6)])), (h 4, .inl (g.2.1, 200, .inl gr)), (h 6, .inl (g.2.1, 7, .inl st)), (h 7, .inr (6, [.int (nI t.1), .int t.2.1, .int t.2.2.1, .int t.2.2.2.1, .int t.2.2.2.2.1, .int t.2.2.2.2.2.1, .int t.2.2.2.2.2.2.1, .int t.2.2.2.2.2.2.2])), (h 8, .inr (0, [.ref (h 9), .ref (h 10)])), (h 10, .inl (g.2.1, 200, .inl sq))]) (st1 := [.int (gnF 0 1 (st 0) (st 1) (gr t.1)), .int t.2.1]) E hw [0, 1, 2, 3, 4] rfl (x_runV (rest := [.int t.2.1]) E hw (c_X2_gain l g h L gr st t 0 1 (by omega)) km_X2_104 kv_X2_gain [0, 1, 2, 3, 4] rfl (by decide) 0 rfl hl.1 rfl rfl (Nat.le_of_ble_eq_true rfl) ⟨Nat.le_of_ble_eq_true rfl, Nat.le_of_ble_eq_true rfl⟩ ⟨Nat.zero_le _, Nat.zero_le _⟩ dX2_driverHandle_48) rfl rfl rfl (fun H locs hw => ?_)
  refine lv_iadd hx hb dX2_driverHandle_51 ?_
  refine lv_iload_n hx hb dX2_driverHandle_52 rfl (lv_at hl 1 rfl) ?_
  refine lv_icmp_gt (tgt := 58) hx hb dX2_driverHandle_53 (by decide) (fun c_2 => ?_) (fun c_2 => ?_)
  · refine lv_iinc (v := 0) (lv' := [(3, .int 0), (2, .int (mostF L sq t)), (1, .int (nI (min (kpt L ((t.2.2.2.2.1 + 999) / 1000) + 1) (L - 1)))), (0, .ref (h 0))]) hx hb dX2_driverHandle_58 hl (k := 0) rfl (by decide) (by decide) rfl (fun ls hl => ?_)
    refine lv_goto (tgt := 34) hx hb dX2_driverHandle_61 (by decide) ?_
    refine lv_iload_n hx hb dX2_driverHandle_34 rfl (lv_at hl 0 rfl) ?_
    refine lv_if_lt (tgt := 64) hx hb dX2_driverHandle_35 (by decide) (fun h => absurd h (by decide)) (fun _ => ?_)
    refine lv_aload_n hx hb dX2_driverHandle_38 rfl (lv_at hl 3 rfl) ?_
    refine x_get E hw kf_X2_27 0 rfl rfl dX2_driverHandle_39 ?_
    refine x_getN E hw kf_X2_101 4 rfl rfl dX2_driverHandle_42 ?_
    refine lv_aload_n hx hb dX2_driverHandle_45 rfl (lv_at hl 3 rfl) ?_
    refine lv_iconst (v := 0) hx hb dX2_driverHandle_46 (by decide) ?_
    refine lv_iload_n hx hb dX2_driverHandle_47 rfl (lv_at hl 0 rfl) ?_
    refine x_go (ws' := [(h 0, .inr (2, [.ref (h 1), .ref (h 2), .ref (h 7), .ref (h 8)])), (h 2, .inr (5, [.int (nI L), .ref (h 3), .ref (h 4), .ref (h 5), .ref (h 6)])), (h 4, .inl (g.2.1, 200, .inl gr)), (h 6, .inl (g.2.1, 7, .inl st)), (h 7, .inr (6, [.int (nI t.1), .int t.2.1, .int t.2.2.1, .int t.2.2.2.1, .int t.2.2.2.2.1, .int t.2.2.2.2.2.1, .int t.2.2.2.2.2.2.1, .int t.2.2.2.2.2.2.2])), (h 8, .inr (0, [.ref (h 9), .ref (h 10)])), (h 10, .inl (g.2.1, 200, .inl sq))]) (st1 := [.int (gnF 0 0 (st 0) (st 1) (gr t.1)), .int t.2.1]) E hw [0, 1, 2, 3, 4] rfl (x_runV (rest := [.int t.2.1]) E hw (c_X2_gain l g h L gr st t 0 0 (by omega)) km_X2_104 kv_X2_gain [0, 1, 2, 3, 4] rfl (by decide) 0 rfl hl.1 rfl rfl (Nat.le_of_ble_eq_true rfl) ⟨Nat.le_of_ble_eq_true rfl, Nat.le_of_ble_eq_true rfl⟩ ⟨Nat.zero_le _, Nat.zero_le _⟩ dX2_driverHandle_48) rfl rfl rfl (fun H locs hw => ?_)
    refine lv_iadd hx hb dX2_driverHandle_51 ?_
    refine lv_iload_n hx hb dX2_driverHandle_52 rfl (lv_at hl 1 rfl) ?_
    refine lv_icmp_gt (tgt := 58) hx hb dX2_driverHandle_53 (by decide) (fun c_4 => ?_) (fun c_4 => ?_)
    · refine lv_iinc (v := -1) (lv' := [(3, .int (-1)), (2, .int (mostF L sq t)), (1, .int (nI (min (kpt L ((t.2.2.2.2.1 + 999) / 1000) + 1) (L - 1)))), (0, .ref (h 0))]) hx hb dX2_driverHandle_58 hl (k := 0) rfl (by decide) (by decide) rfl (fun ls hl => ?_)
      refine lv_goto (tgt := 34) hx hb dX2_driverHandle_61 (by decide) ?_
      refine lv_iload_n hx hb dX2_driverHandle_34 rfl (lv_at hl 0 rfl) ?_
      refine lv_if_lt (tgt := 64) hx hb dX2_driverHandle_35 (by decide) (fun _ => ?_) (fun h => absurd h (by decide))
      refine lv_iconst (v := -1) hx hb dX2_driverHandle_64 (by decide) ?_
      exact xr_i hQ E hr hw dX2_driverHandle_65 ⟨congrArg (fun z => some (Value.int z)) (by simp only [drvH, if_pos c_2, if_pos c_4]), rfl⟩
    · refine lv_iload_n hx hb dX2_driverHandle_56 rfl (lv_at hl 0 rfl) ?_
      exact xr_i hQ E hr hw dX2_driverHandle_57 ⟨congrArg (fun z => some (Value.int z)) (by simp only [drvH, if_pos c_2, if_neg c_4]), rfl⟩
  · refine lv_iload_n hx hb dX2_driverHandle_56 rfl (lv_at hl 0 rfl) ?_
    exact xr_i hQ E hr hw dX2_driverHandle_57 ⟨congrArg (fun z => some (Value.int z)) (by simp only [drvH, if_neg c_2]), rfl⟩

set_option maxRecDepth 100000 in
set_option maxHeartbeats 4000000 in
theorem c_X2_stepsOnce_ok (l : Launch) (g : xCfg) (h : Nat → Nat) (L : Nat) (gr : Nat → Int32) (be : Nat → Int32) (st : Nat → Int32) (t : TV) (sq : Nat → Int32) (hd : Int32) (hL : L ≤ 200) (hf : t.1 < L) (h1 : -1 ≤ hd) (h2 : hd ≤ 1) : Ct l g yX2_stepsOnce cX2_stepsOnce 2 (some .int) (xR 6 120) [.ref (h 0), .int hd] [(h 0, .inr (2, [.ref (h 1), .ref (h 2), .ref (h 7), .ref (h 8)])), (h 2, .inr (5, [.int (nI L), .ref (h 3), .ref (h 4), .ref (h 5), .ref (h 6)])), (h 4, .inl (g.2.1, 200, .inl gr)), (h 5, .inl (g.2.1, 200, .inl be)), (h 6, .inl (g.2.1, 7, .inl st)), (h 7, .inr (6, [.int (nI t.1), .int t.2.1, .int t.2.2.1, .int t.2.2.2.1, .int t.2.2.2.2.1, .int t.2.2.2.2.2.1, .int t.2.2.2.2.2.2.1, .int t.2.2.2.2.2.2.2])), (h 8, .inr (0, [.ref (h 9), .ref (h 10)])), (h 10, .inl (g.2.1, 200, .inl sq))] (is1 (some (.int (bI (stpP L gr st hd t)))) [(h 0, .inr (2, [.ref (h 1), .ref (h 2), .ref (h 7), .ref (h 8)])), (h 2, .inr (5, [.int (nI L), .ref (h 3), .ref (h 4), .ref (h 5), .ref (h 6)])), (h 4, .inl (g.2.1, 200, .inl gr)), (h 5, .inl (g.2.1, 200, .inl be)), (h 6, .inl (g.2.1, 7, .inl st)), (h 7, .inr (6, [.int (nI ((stpT L gr be st sq hd t).1)), .int ((stpT L gr be st sq hd t).2.1), .int ((stpT L gr be st sq hd t).2.2.1), .int ((stpT L gr be st sq hd t).2.2.2.1), .int ((stpT L gr be st sq hd t).2.2.2.2.1), .int ((stpT L gr be st sq hd t).2.2.2.2.2.1), .int ((stpT L gr be st sq hd t).2.2.2.2.2.2.1), .int ((stpT L gr be st sq hd t).2.2.2.2.2.2.2)])), (h 8, .inr (0, [.ref (h 9), .ref (h 10)])), (h 10, .inl (g.2.1, 200, .inl sq))]) := by
  refine Ct.walk (by decide) (Nat.le_of_ble_eq_true rfl) ?_
  intro p0 e0 s0 m0 below meth c0 A0 ls Q hQ E hr hnm hw hl
  have hx := E.x
  have hb := E.b
  have hl : lv_has ls 2 [(0, .ref (h 0)), (1, .int hd)] := hl
  refine lv_iload_n hx hb dX2_stepsOnce_0 rfl (lv_at hl 1 rfl) ?_
  refine lv_iconst (v := -1) hx hb dX2_stepsOnce_1 (by decide) ?_
  refine lv_iconst (v := 1) hx hb dX2_stepsOnce_2 (by decide) ?_
  refine x_go (ws' := [(h 0, .inr (2, [.ref (h 1), .ref (h 2), .ref (h 7), .ref (h 8)])), (h 2, .inr (5, [.int (nI L), .ref (h 3), .ref (h 4), .ref (h 5), .ref (h 6)])), (h 4, .inl (g.2.1, 200, .inl gr)), (h 5, .inl (g.2.1, 200, .inl be)), (h 6, .inl (g.2.1, 7, .inl st)), (h 7, .inr (6, [.int (nI t.1), .int t.2.1, .int t.2.2.1, .int t.2.2.2.1, .int t.2.2.2.2.1, .int t.2.2.2.2.2.1, .int t.2.2.2.2.2.2.1, .int t.2.2.2.2.2.2.2])), (h 8, .inr (0, [.ref (h 9), .ref (h 10)])), (h 10, .inl (g.2.1, 200, .inl sq))]) (st1 := [.int 1]) E hw [] rfl (x_runSN (rest := []) E hw (c_X7_within_ok l g hd (-1) 1 h1 h2) km_X2_84 ks_X7_within [] rfl (by decide) hl.1 rfl rfl (Nat.le_of_ble_eq_true rfl) ⟨Nat.le_of_ble_eq_true rfl, Nat.le_of_ble_eq_true rfl⟩ ⟨Nat.zero_le _, Nat.zero_le _⟩ dX2_stepsOnce_3) rfl rfl rfl (fun H locs hw => ?_)
  refine lv_if_ne (tgt := 12) hx hb dX2_stepsOnce_6 (by decide) (fun _ => ?_) (fun h => absurd h (by decide))
  refine lv_aload_n hx hb dX2_stepsOnce_12 rfl (lv_at hl 0 rfl) ?_
  refine lv_iload_n hx hb dX2_stepsOnce_13 rfl (lv_at hl 1 rfl) ?_
  refine x_go (ws' := [(h 0, .inr (2, [.ref (h 1), .ref (h 2), .ref (h 7), .ref (h 8)])), (h 2, .inr (5, [.int (nI L), .ref (h 3), .ref (h 4), .ref (h 5), .ref (h 6)])), (h 4, .inl (g.2.1, 200, .inl gr)), (h 5, .inl (g.2.1, 200, .inl be)), (h 6, .inl (g.2.1, 7, .inl st)), (h 7, .inr (6, [.int (nI ((stpT L gr be st sq hd t).1)), .int ((stpT L gr be st sq hd t).2.1), .int ((stpT L gr be st sq hd t).2.2.1), .int ((stpT L gr be st sq hd t).2.2.2.1), .int ((stpT L gr be st sq hd t).2.2.2.2.1), .int ((stpT L gr be st sq hd t).2.2.2.2.2.1), .int ((stpT L gr be st sq hd t).2.2.2.2.2.2.1), .int ((stpT L gr be st sq hd t).2.2.2.2.2.2.2)])), (h 8, .inr (0, [.ref (h 9), .ref (h 10)])), (h 10, .inl (g.2.1, 200, .inl sq))]) (st1 := [.int (bI (stpP L gr st hd t))]) E hw [0, 1, 2, 3, 4, 5, 6, 7] rfl (x_runV (rest := []) E hw (c_X2_goesOn l g h L gr be st t sq hd (by omega) (by omega)) km_X2_94 kv_X2_goesOn [0, 1, 2, 3, 4, 5, 6, 7] rfl (by decide) 0 rfl hl.1 rfl rfl (Nat.le_of_ble_eq_true rfl) ⟨Nat.le_of_ble_eq_true rfl, Nat.le_of_ble_eq_true rfl⟩ ⟨Nat.zero_le _, Nat.zero_le _⟩ dX2_stepsOnce_14) rfl rfl rfl (fun H locs hw => ?_)
  refine xb_eq (tgt := 24) hx hb dX2_stepsOnce_17 (by decide) (fun cb => ?_) (fun cb => ?_)
  · refine lv_iconst (v := 0) hx hb dX2_stepsOnce_24 (by decide) ?_
    exact xr_i hQ E hr hw dX2_stepsOnce_25 ⟨congrArg (fun z => some (Value.int z)) ((bI_f cb).symm), rfl⟩
  · refine lv_iconst (v := 1) hx hb dX2_stepsOnce_20 (by decide) ?_
    refine lv_goto (tgt := 25) hx hb dX2_stepsOnce_21 (by decide) ?_
    exact xr_i hQ E hr hw dX2_stepsOnce_25 ⟨congrArg (fun z => some (Value.int z)) ((bI_t cb).symm), rfl⟩

set_option maxRecDepth 100000 in
set_option maxHeartbeats 4000000 in
theorem c_X2_stepsByDriver_ok (l : Launch) (g : xCfg) (h : Nat → Nat) (L : Nat) (gr : Nat → Int32) (be : Nat → Int32) (st : Nat → Int32) (t : TV) (sq : Nat → Int32) (m : Nat) (hL : L ≤ 200) (hf : t.1 < L) (h1 : 1 ≤ m) (h2 : m ≤ 50) : Ct l g yX2_stepsByDriver cX2_stepsByDriver 3 (some .int) (xR 6 120) [.ref (h 0), .int (nI m)] [(h 0, .inr (2, [.ref (h 1), .ref (h 2), .ref (h 7), .ref (h 8)])), (h 2, .inr (5, [.int (nI L), .ref (h 3), .ref (h 4), .ref (h 5), .ref (h 6)])), (h 4, .inl (g.2.1, 200, .inl gr)), (h 5, .inl (g.2.1, 200, .inl be)), (h 6, .inl (g.2.1, 7, .inl st)), (h 7, .inr (6, [.int (nI t.1), .int t.2.1, .int t.2.2.1, .int t.2.2.2.1, .int t.2.2.2.2.1, .int t.2.2.2.2.2.1, .int t.2.2.2.2.2.2.1, .int t.2.2.2.2.2.2.2])), (h 8, .inr (0, [.ref (h 9), .ref (h 10)])), (h 10, .inl (g.2.1, 200, .inl sq))] (is1 (some (.int (nI ((drvT L gr be st sq m t).1)))) [(h 0, .inr (2, [.ref (h 1), .ref (h 2), .ref (h 7), .ref (h 8)])), (h 2, .inr (5, [.int (nI L), .ref (h 3), .ref (h 4), .ref (h 5), .ref (h 6)])), (h 4, .inl (g.2.1, 200, .inl gr)), (h 5, .inl (g.2.1, 200, .inl be)), (h 6, .inl (g.2.1, 7, .inl st)), (h 7, .inr (6, [.int (nI (((drvT L gr be st sq m t).2).1)), .int (((drvT L gr be st sq m t).2).2.1), .int (((drvT L gr be st sq m t).2).2.2.1), .int (((drvT L gr be st sq m t).2).2.2.2.1), .int (((drvT L gr be st sq m t).2).2.2.2.2.1), .int (((drvT L gr be st sq m t).2).2.2.2.2.2.1), .int (((drvT L gr be st sq m t).2).2.2.2.2.2.2.1), .int (((drvT L gr be st sq m t).2).2.2.2.2.2.2.2)])), (h 8, .inr (0, [.ref (h 9), .ref (h 10)])), (h 10, .inl (g.2.1, 200, .inl sq))]) := by
  refine Ct.walk (by decide) (Nat.le_of_ble_eq_true rfl) ?_
  intro p0 e0 s0 m0 below meth c0 A0 ls Q hQ E hr hnm hw hl
  have hx := E.x
  have hb := E.b
  have hl : lv_has ls 3 [(0, .ref (h 0)), (1, .int (nI m))] := hl
  refine lv_iload_n hx hb dX2_stepsByDriver_0 rfl (lv_at hl 1 rfl) ?_
  refine lv_iconst (v := 1) hx hb dX2_stepsByDriver_1 (by decide) ?_
  refine lv_bipush (v := 50) hx hb dX2_stepsByDriver_2 (by decide) ?_
  refine x_go (ws' := [(h 0, .inr (2, [.ref (h 1), .ref (h 2), .ref (h 7), .ref (h 8)])), (h 2, .inr (5, [.int (nI L), .ref (h 3), .ref (h 4), .ref (h 5), .ref (h 6)])), (h 4, .inl (g.2.1, 200, .inl gr)), (h 5, .inl (g.2.1, 200, .inl be)), (h 6, .inl (g.2.1, 7, .inl st)), (h 7, .inr (6, [.int (nI t.1), .int t.2.1, .int t.2.2.1, .int t.2.2.2.1, .int t.2.2.2.2.1, .int t.2.2.2.2.2.1, .int t.2.2.2.2.2.2.1, .int t.2.2.2.2.2.2.2])), (h 8, .inr (0, [.ref (h 9), .ref (h 10)])), (h 10, .inl (g.2.1, 200, .inl sq))]) (st1 := [.int 1]) E hw [] rfl (x_runSN (rest := []) E hw (c_X7_within_ok l g (nI m) 1 50 (nI_le (a := 1) h1 (by omega)) (nI_le (b := 50) h2 (by decide))) km_X2_84 ks_X7_within [] rfl (by decide) hl.1 rfl rfl (Nat.le_of_ble_eq_true rfl) ⟨Nat.le_of_ble_eq_true rfl, Nat.le_of_ble_eq_true rfl⟩ ⟨Nat.zero_le _, Nat.zero_le _⟩ dX2_stepsByDriver_4) rfl rfl rfl (fun H locs hw => ?_)
  refine lv_if_ne (tgt := 13) hx hb dX2_stepsByDriver_7 (by decide) (fun _ => ?_) (fun h => absurd h (by decide))
  refine lv_iconst (v := 0) hx hb dX2_stepsByDriver_13 (by decide) ?_
  refine lv_istore_n (lv' := [(2, .int 0), (0, .ref (h 0)), (1, .int (nI m))]) hx hb dX2_stepsByDriver_14 rfl hl (by decide) rfl (fun ls hl => ?_)
  have lp_15 : ∀ (fuel : Nat) (k : Nat) (u : TV), m - k < fuel → k ≤ m → u.1 < L → k + (drvT L gr be st sq (m - k) u).1 = (drvT L gr be st sq m t).1 ∧ (drvT L gr be st sq (m - k) u).2 = (drvT L gr be st sq m t).2 → ∀ (H : Heap) (locs : List Loc) (ls : Array Slot), xW g A0 s0 [(h 0, .inr (2, [.ref (h 1), .ref (h 2), .ref (h 7), .ref (h 8)])), (h 2, .inr (5, [.int (nI L), .ref (h 3), .ref (h 4), .ref (h 5), .ref (h 6)])), (h 4, .inl (g.2.1, 200, .inl gr)), (h 5, .inl (g.2.1, 200, .inl be)), (h 6, .inl (g.2.1, 7, .inl st)), (h 7, .inr (6, [.int (nI u.1), .int u.2.1, .int u.2.2.1, .int u.2.2.2.1, .int u.2.2.2.2.1, .int u.2.2.2.2.2.1, .int u.2.2.2.2.2.2.1, .int u.2.2.2.2.2.2.2])), (h 8, .inr (0, [.ref (h 9), .ref (h 10)])), (h 10, .inl (g.2.1, 200, .inl sq))] H locs → lv_has ls 3 [(2, .int (nI k)), (0, .ref (h 0)), (1, .int (nI m))] → W p0 l e0 (xR 6 120) s0 m0 [.ref (h 0), .int (nI m)].toArray below meth c0 H locs 0 0 Q (F0 m0 15 ls []) := by
    intro fuel
    induction fuel with
    | zero => intro k u hm; exact absurd hm (Nat.not_lt_zero _)
    | succ fuel ih =>
      intro k u hm hk hu hi H locs ls hw hl
      refine lv_iload_n hx hb dX2_stepsByDriver_15 rfl (lv_at hl 0 rfl) ?_
      refine lv_iload_n hx hb dX2_stepsByDriver_16 rfl (lv_at hl 2 rfl) ?_
      refine xn_ge (tgt := 37) hx hb k m rfl rfl (by omega) (by omega) dX2_stepsByDriver_17 (by decide) (fun cg => ?_) (fun cg => ?_)
      · refine lv_iload_n hx hb dX2_stepsByDriver_37 rfl (lv_at hl 0 rfl) ?_
        exact xr_i hQ E hr hw dX2_stepsByDriver_38 ⟨congrArg (fun z => some (Value.int z)) (congrArg nI (by have e := hi.1; rw [show m - k = 0 by omega] at e; exact e)), (by have e := hi.2; rw [show m - k = 0 by omega] at e; rw [← e] <;> rfl)⟩
      · refine lv_aload_n hx hb dX2_stepsByDriver_20 rfl (lv_at hl 1 rfl) ?_
        refine lv_aload_n hx hb dX2_stepsByDriver_21 rfl (lv_at hl 1 rfl) ?_
        refine x_go (ws' := [(h 0, .inr (2, [.ref (h 1), .ref (h 2), .ref (h 7), .ref (h 8)])), (h 2, .inr (5, [.int (nI L), .ref (h 3), .ref (h 4), .ref (h 5), .ref (h 6)])), (h 4, .inl (g.2.1, 200, .inl gr)), (h 5, .inl (g.2.1, 200, .inl be)), (h 6, .inl (g.2.1, 7, .inl st)), (h 7, .inr (6, [.int (nI u.1), .int u.2.1, .int u.2.2.1, .int u.2.2.2.1, .int u.2.2.2.2.1, .int u.2.2.2.2.2.1, .int u.2.2.2.2.2.2.1, .int u.2.2.2.2.2.2.2])), (h 8, .inr (0, [.ref (h 9), .ref (h 10)])), (h 10, .inl (g.2.1, 200, .inl sq))]) (st1 := [.int (drvH L gr st sq u), .ref (h 0)]) E hw [0, 1, 2, 4, 5, 6, 7] rfl (x_runV (rest := [.ref (h 0)]) E hw (c_X2_driverHandle l g h L gr st u sq (by omega) (by omega) (by omega)) km_X2_97 kv_X2_driverHandle [0, 1, 2, 4, 5, 6, 7] rfl (by decide) 0 rfl hl.1 rfl rfl (Nat.le_of_ble_eq_true rfl) ⟨Nat.le_of_ble_eq_true rfl, Nat.le_of_ble_eq_true rfl⟩ ⟨Nat.zero_le _, Nat.zero_le _⟩ dX2_stepsByDriver_22) rfl rfl rfl (fun H locs hw => ?_)
        refine x_go (ws' := [(h 0, .inr (2, [.ref (h 1), .ref (h 2), .ref (h 7), .ref (h 8)])), (h 2, .inr (5, [.int (nI L), .ref (h 3), .ref (h 4), .ref (h 5), .ref (h 6)])), (h 4, .inl (g.2.1, 200, .inl gr)), (h 5, .inl (g.2.1, 200, .inl be)), (h 6, .inl (g.2.1, 7, .inl st)), (h 7, .inr (6, [.int (nI ((stpT L gr be st sq (drvH L gr st sq u) u).1)), .int ((stpT L gr be st sq (drvH L gr st sq u) u).2.1), .int ((stpT L gr be st sq (drvH L gr st sq u) u).2.2.1), .int ((stpT L gr be st sq (drvH L gr st sq u) u).2.2.2.1), .int ((stpT L gr be st sq (drvH L gr st sq u) u).2.2.2.2.1), .int ((stpT L gr be st sq (drvH L gr st sq u) u).2.2.2.2.2.1), .int ((stpT L gr be st sq (drvH L gr st sq u) u).2.2.2.2.2.2.1), .int ((stpT L gr be st sq (drvH L gr st sq u) u).2.2.2.2.2.2.2)])), (h 8, .inr (0, [.ref (h 9), .ref (h 10)])), (h 10, .inl (g.2.1, 200, .inl sq))]) (st1 := [.int (bI (stpP L gr st (drvH L gr st sq u) u))]) E hw [0, 1, 2, 3, 4, 5, 6, 7] rfl (x_runV (rest := []) E hw (c_X2_goesOn l g h L gr be st u sq (drvH L gr st sq u) (by omega) (by omega)) km_X2_94 kv_X2_goesOn [0, 1, 2, 3, 4, 5, 6, 7] rfl (by decide) 0 rfl hl.1 rfl rfl (Nat.le_of_ble_eq_true rfl) ⟨Nat.le_of_ble_eq_true rfl, Nat.le_of_ble_eq_true rfl⟩ ⟨Nat.zero_le _, Nat.zero_le _⟩ dX2_stepsByDriver_25) rfl rfl rfl (fun H locs hw => ?_)
        refine xb_eq (tgt := 37) hx hb dX2_stepsByDriver_28 (by decide) (fun cb => ?_) (fun cb => ?_)
        · refine lv_iload_n hx hb dX2_stepsByDriver_37 rfl (lv_at hl 0 rfl) ?_
          exact xr_i hQ E hr hw dX2_stepsByDriver_38 ⟨congrArg (fun z => some (Value.int z)) (congrArg nI (by have e := hi.1; rw [show m - k = (m - (k + 1)) + 1 by omega, drvT_no cb] at e; exact e)), (by have e := hi.2; rw [show m - k = (m - (k + 1)) + 1 by omega, drvT_no cb] at e; rw [← e] <;> rfl)⟩
        · refine lv_iinc (v := nI (k + 1)) (lv' := [(2, .int (nI (k + 1))), (0, .ref (h 0)), (1, .int (nI m))]) hx hb dX2_stepsByDriver_31 hl (k := 0) rfl (nI_1 _) (by decide) rfl (fun ls hl => ?_)
          refine lv_goto (tgt := 15) hx hb dX2_stepsByDriver_34 (by decide) ?_
          have hl : lv_has ls 3 [(2, .int (nI (k + 1))), (0, .ref (h 0)), (1, .int (nI m))] := lv_sub hl [0, 1, 2] rfl
          have hl : lv_has ls 3 [(2, .int (nI (k + 1))), (0, .ref (h 0)), (1, .int (nI m))] := hl
          have hw : xW g A0 s0 [(h 0, .inr (2, [.ref (h 1), .ref (h 2), .ref (h 7), .ref (h 8)])), (h 2, .inr (5, [.int (nI L), .ref (h 3), .ref (h 4), .ref (h 5), .ref (h 6)])), (h 4, .inl (g.2.1, 200, .inl gr)), (h 5, .inl (g.2.1, 200, .inl be)), (h 6, .inl (g.2.1, 7, .inl st)), (h 7, .inr (6, [.int (nI ((stpT L gr be st sq (drvH L gr st sq u) u).1)), .int ((stpT L gr be st sq (drvH L gr st sq u) u).2.1), .int ((stpT L gr be st sq (drvH L gr st sq u) u).2.2.1), .int ((stpT L gr be st sq (drvH L gr st sq u) u).2.2.2.1), .int ((stpT L gr be st sq (drvH L gr st sq u) u).2.2.2.2.1), .int ((stpT L gr be st sq (drvH L gr st sq u) u).2.2.2.2.2.1), .int ((stpT L gr be st sq (drvH L gr st sq u) u).2.2.2.2.2.2.1), .int ((stpT L gr be st sq (drvH L gr st sq u) u).2.2.2.2.2.2.2)])), (h 8, .inr (0, [.ref (h 9), .ref (h 10)])), (h 10, .inl (g.2.1, 200, .inl sq))] _ _ := hw
          exact ih (k + 1) (stpT L gr be st sq (drvH L gr st sq u) u) (by omega) (by omega) (stpT_lt hu) (by have e := hi; rw [show m - k = (m - (k + 1)) + 1 by omega, drvT_go cb] at e; exact ⟨by rw [← e.1]; omega, e.2⟩) _ _ _ hw hl
  have hl : lv_has ls 3 [(2, .int 0), (0, .ref (h 0)), (1, .int (nI m))] := lv_sub hl [0, 1, 2] rfl
  have hl : lv_has ls 3 [(2, .int 0), (0, .ref (h 0)), (1, .int (nI m))] := hl
  have hw : xW g A0 s0 [(h 0, .inr (2, [.ref (h 1), .ref (h 2), .ref (h 7), .ref (h 8)])), (h 2, .inr (5, [.int (nI L), .ref (h 3), .ref (h 4), .ref (h 5), .ref (h 6)])), (h 4, .inl (g.2.1, 200, .inl gr)), (h 5, .inl (g.2.1, 200, .inl be)), (h 6, .inl (g.2.1, 7, .inl st)), (h 7, .inr (6, [.int (nI t.1), .int t.2.1, .int t.2.2.1, .int t.2.2.2.1, .int t.2.2.2.2.1, .int t.2.2.2.2.2.1, .int t.2.2.2.2.2.2.1, .int t.2.2.2.2.2.2.2])), (h 8, .inr (0, [.ref (h 9), .ref (h 10)])), (h 10, .inl (g.2.1, 200, .inl sq))] _ _ := hw
  exact lp_15 ((m - 0) + 1) 0 t (Nat.lt_succ_self _) (by omega) hf ⟨Nat.zero_add _, rfl⟩ _ _ _ hw hl

set_option maxRecDepth 100000 in
set_option maxHeartbeats 4000000 in
theorem c_X2_releases_ok (l : Launch) (g : xCfg) (h : Nat → Nat) (L : Nat) (st : Nat → Int32) (t : TV) (sq : Nat → Int32) (hL1 : 1 ≤ L) (hL : L ≤ 200) (hm : t.2.2.1 = 3) (hq : t.2.1 = 0) : Ct l g yX2_releases cX2_releases 1 (some .int) (xR 5 96) [.ref (h 0)] [(h 0, .inr (2, [.ref (h 1), .ref (h 2), .ref (h 7), .ref (h 8)])), (h 2, .inr (5, [.int (nI L), .ref (h 3), .ref (h 4), .ref (h 5), .ref (h 6)])), (h 6, .inl (g.2.1, 7, .inl st)), (h 7, .inr (6, [.int (nI t.1), .int t.2.1, .int t.2.2.1, .int t.2.2.2.1, .int t.2.2.2.2.1, .int t.2.2.2.2.2.1, .int t.2.2.2.2.2.2.1, .int t.2.2.2.2.2.2.2])), (h 8, .inr (0, [.ref (h 9), .ref (h 10)])), (h 10, .inl (g.2.1, 200, .inl sq))] (is1 (some (.int ((supT L st sq (relT t)).2.2.1))) [(h 0, .inr (2, [.ref (h 1), .ref (h 2), .ref (h 7), .ref (h 8)])), (h 2, .inr (5, [.int (nI L), .ref (h 3), .ref (h 4), .ref (h 5), .ref (h 6)])), (h 6, .inl (g.2.1, 7, .inl st)), (h 7, .inr (6, [.int (nI ((supT L st sq (relT t)).1)), .int ((supT L st sq (relT t)).2.1), .int ((supT L st sq (relT t)).2.2.1), .int ((supT L st sq (relT t)).2.2.2.1), .int ((supT L st sq (relT t)).2.2.2.2.1), .int ((supT L st sq (relT t)).2.2.2.2.2.1), .int ((supT L st sq (relT t)).2.2.2.2.2.2.1), .int ((supT L st sq (relT t)).2.2.2.2.2.2.2)])), (h 8, .inr (0, [.ref (h 9), .ref (h 10)])), (h 10, .inl (g.2.1, 200, .inl sq))]) := by
  refine Ct.walk (by decide) (Nat.le_of_ble_eq_true rfl) ?_
  intro p0 e0 s0 m0 below meth c0 A0 ls Q hQ E hr hnm hw hl
  have hx := E.x
  have hb := E.b
  have hl : lv_has ls 1 [(0, .ref (h 0))] := hl
  refine lv_aload_n hx hb dX2_releases_0 rfl (lv_at hl 0 rfl) ?_
  refine x_get E hw kf_X2_27 0 rfl rfl dX2_releases_1 ?_
  refine x_getN E hw kf_X2_91 3 rfl rfl dX2_releases_4 ?_
  refine lv_iconst (v := 3) hx hb dX2_releases_7 (by decide) ?_
  refine lv_icmp_ne (tgt := 21) hx hb dX2_releases_8 (by decide) (fun ca => ?_) (fun ca => ?_)
  · exact absurd hm ca
  · refine lv_aload_n hx hb dX2_releases_11 rfl (lv_at hl 0 rfl) ?_
    refine x_get E hw kf_X2_27 0 rfl rfl dX2_releases_12 ?_
    refine x_getN E hw kf_X2_101 3 rfl rfl dX2_releases_15 ?_
    refine lv_if_eq (tgt := 24) hx hb dX2_releases_18 (by decide) (fun cb => ?_) (fun cb => ?_)
    · refine lv_aload_n hx hb dX2_releases_24 rfl (lv_at hl 0 rfl) ?_
      refine x_get E hw kf_X2_27 0 rfl rfl dX2_releases_25 ?_
      refine lv_iconst (v := 0) hx hb dX2_releases_28 (by decide) ?_
      refine x_putN E hw kf_X2_91 kp_X6_2 3 rfl (ty := .int) (by decide +kernel) rfl rfl (by simp) (ws' := [(h 0, .inr (2, [.ref (h 1), .ref (h 2), .ref (h 7), .ref (h 8)])), (h 2, .inr (5, [.int (nI L), .ref (h 3), .ref (h 4), .ref (h 5), .ref (h 6)])), (h 6, .inl (g.2.1, 7, .inl st)), (h 7, .inr (6, [.int (nI t.1), .int t.2.1, .int 0, .int t.2.2.2.1, .int t.2.2.2.2.1, .int t.2.2.2.2.2.1, .int t.2.2.2.2.2.2.1, .int t.2.2.2.2.2.2.2])), (h 8, .inr (0, [.ref (h 9), .ref (h 10)])), (h 10, .inl (g.2.1, 200, .inl sq))]) rfl dX2_releases_29 (fun H locs hw => ?_)
      refine lv_aload_n hx hb dX2_releases_32 rfl (lv_at hl 0 rfl) ?_
      refine x_go (ws' := [(h 0, .inr (2, [.ref (h 1), .ref (h 2), .ref (h 7), .ref (h 8)])), (h 2, .inr (5, [.int (nI L), .ref (h 3), .ref (h 4), .ref (h 5), .ref (h 6)])), (h 6, .inl (g.2.1, 7, .inl st)), (h 7, .inr (6, [.int (nI ((supT L st sq (t.1, t.2.1, 0, t.2.2.2.1, t.2.2.2.2.1, t.2.2.2.2.2.1, t.2.2.2.2.2.2.1, t.2.2.2.2.2.2.2)).1)), .int ((supT L st sq (t.1, t.2.1, 0, t.2.2.2.1, t.2.2.2.2.1, t.2.2.2.2.2.1, t.2.2.2.2.2.2.1, t.2.2.2.2.2.2.2)).2.1), .int ((supT L st sq (t.1, t.2.1, 0, t.2.2.2.1, t.2.2.2.2.1, t.2.2.2.2.2.1, t.2.2.2.2.2.2.1, t.2.2.2.2.2.2.2)).2.2.1), .int ((supT L st sq (t.1, t.2.1, 0, t.2.2.2.1, t.2.2.2.2.1, t.2.2.2.2.2.1, t.2.2.2.2.2.2.1, t.2.2.2.2.2.2.2)).2.2.2.1), .int ((supT L st sq (t.1, t.2.1, 0, t.2.2.2.1, t.2.2.2.2.1, t.2.2.2.2.2.1, t.2.2.2.2.2.2.1, t.2.2.2.2.2.2.2)).2.2.2.2.1), .int ((supT L st sq (t.1, t.2.1, 0, t.2.2.2.1, t.2.2.2.2.1, t.2.2.2.2.2.1, t.2.2.2.2.2.2.1, t.2.2.2.2.2.2.2)).2.2.2.2.2.1), .int ((supT L st sq (t.1, t.2.1, 0, t.2.2.2.1, t.2.2.2.2.1, t.2.2.2.2.2.1, t.2.2.2.2.2.2.1, t.2.2.2.2.2.2.2)).2.2.2.2.2.2.1), .int ((supT L st sq (t.1, t.2.1, 0, t.2.2.2.1, t.2.2.2.2.1, t.2.2.2.2.2.1, t.2.2.2.2.2.2.1, t.2.2.2.2.2.2.2)).2.2.2.2.2.2.2)])), (h 8, .inr (0, [.ref (h 9), .ref (h 10)])), (h 10, .inl (g.2.1, 200, .inl sq))]) (st1 := []) E hw [0, 1, 2, 3, 4, 5] rfl (x_runV (rest := []) E hw (c_X2_supervises l g h L st (t.1, t.2.1, 0, t.2.2.2.1, t.2.2.2.2.1, t.2.2.2.2.2.1, t.2.2.2.2.2.2.1, t.2.2.2.2.2.2.2) sq (by omega) (by omega)) km_X2_88 kv_X2_supervises [0, 1, 2, 3, 4, 5] rfl (by decide) 0 rfl hl.1 rfl rfl (Nat.le_of_ble_eq_true rfl) ⟨Nat.le_of_ble_eq_true rfl, Nat.le_of_ble_eq_true rfl⟩ ⟨Nat.zero_le _, Nat.zero_le _⟩ dX2_releases_33) rfl rfl rfl (fun H locs hw => ?_)
      refine lv_aload_n hx hb dX2_releases_36 rfl (lv_at hl 0 rfl) ?_
      refine x_get E hw kf_X2_27 0 rfl rfl dX2_releases_37 ?_
      refine x_getN E hw kf_X2_91 3 rfl rfl dX2_releases_40 ?_
      exact xr_i hQ E hr hw dX2_releases_43 ⟨rfl, rfl⟩
    · exact absurd hq cb

set_option maxRecDepth 100000 in
set_option maxHeartbeats 4000000 in
theorem c_X2_releases_no (l : Launch) (g : xCfg) (h : Nat → Nat) (L : Nat) (st : Nat → Int32) (t : TV) (sq : Nat → Int32) (hn : ¬ (t.2.2.1 = 3 ∧ t.2.1 = 0)) : Ct l g yX2_releases cX2_releases 1 (some .int) (xR 0 0) [.ref (h 0)] [(h 0, .inr (2, [.ref (h 1), .ref (h 2), .ref (h 7), .ref (h 8)])), (h 2, .inr (5, [.int (nI L), .ref (h 3), .ref (h 4), .ref (h 5), .ref (h 6)])), (h 6, .inl (g.2.1, 7, .inl st)), (h 7, .inr (6, [.int (nI t.1), .int t.2.1, .int t.2.2.1, .int t.2.2.2.1, .int t.2.2.2.2.1, .int t.2.2.2.2.2.1, .int t.2.2.2.2.2.2.1, .int t.2.2.2.2.2.2.2])), (h 8, .inr (0, [.ref (h 9), .ref (h 10)])), (h 10, .inl (g.2.1, 200, .inl sq))] (is1 (some (.int (-3))) [(h 0, .inr (2, [.ref (h 1), .ref (h 2), .ref (h 7), .ref (h 8)])), (h 2, .inr (5, [.int (nI L), .ref (h 3), .ref (h 4), .ref (h 5), .ref (h 6)])), (h 6, .inl (g.2.1, 7, .inl st)), (h 7, .inr (6, [.int (nI t.1), .int t.2.1, .int t.2.2.1, .int t.2.2.2.1, .int t.2.2.2.2.1, .int t.2.2.2.2.2.1, .int t.2.2.2.2.2.2.1, .int t.2.2.2.2.2.2.2])), (h 8, .inr (0, [.ref (h 9), .ref (h 10)])), (h 10, .inl (g.2.1, 200, .inl sq))]) := by
  refine Ct.walk (by decide) (Nat.le_of_ble_eq_true rfl) ?_
  intro p0 e0 s0 m0 below meth c0 A0 ls Q hQ E hr hnm hw hl
  have hx := E.x
  have hb := E.b
  have hl : lv_has ls 1 [(0, .ref (h 0))] := hl
  refine lv_aload_n hx hb dX2_releases_0 rfl (lv_at hl 0 rfl) ?_
  refine x_get E hw kf_X2_27 0 rfl rfl dX2_releases_1 ?_
  refine x_getN E hw kf_X2_91 3 rfl rfl dX2_releases_4 ?_
  refine lv_iconst (v := 3) hx hb dX2_releases_7 (by decide) ?_
  refine lv_icmp_ne (tgt := 21) hx hb dX2_releases_8 (by decide) (fun ca => ?_) (fun ca => ?_)
  · refine lv_bipush (v := -3) hx hb dX2_releases_21 (by decide) ?_
    exact xr_i hQ E hr hw dX2_releases_23 ⟨rfl, rfl⟩
  · refine lv_aload_n hx hb dX2_releases_11 rfl (lv_at hl 0 rfl) ?_
    refine x_get E hw kf_X2_27 0 rfl rfl dX2_releases_12 ?_
    refine x_getN E hw kf_X2_101 3 rfl rfl dX2_releases_15 ?_
    refine lv_if_eq (tgt := 24) hx hb dX2_releases_18 (by decide) (fun cb => ?_) (fun cb => ?_)
    · exact absurd ⟨ca, cb⟩ hn
    · refine lv_bipush (v := -3) hx hb dX2_releases_21 (by decide) ?_
      exact xr_i hQ E hr hw dX2_releases_23 ⟨rfl, rfl⟩

set_option maxRecDepth 100000 in
set_option maxHeartbeats 4000000 in
theorem c_X2_putsTrain_ok (l : Launch) (g : xCfg) (h : Nat → Nat) (L : Nat) (st : Nat → Int32) (t : TV) (sq : Nat → Int32) (x : Nat) (v : Int32) (hL : L ≤ 200) (hx0 : x < L) (hv : 0 ≤ v) (hv2 : v ≤ 99) : Ct l g yX2_putsTrain cX2_putsTrain 3 (some .int) (xR 5 96) [.ref (h 0), .int (nI x), .int v] [(h 0, .inr (2, [.ref (h 1), .ref (h 2), .ref (h 7), .ref (h 8)])), (h 2, .inr (5, [.int (nI L), .ref (h 3), .ref (h 4), .ref (h 5), .ref (h 6)])), (h 6, .inl (g.2.1, 7, .inl st)), (h 7, .inr (6, [.int (nI t.1), .int t.2.1, .int t.2.2.1, .int t.2.2.2.1, .int t.2.2.2.2.1, .int t.2.2.2.2.2.1, .int t.2.2.2.2.2.2.1, .int t.2.2.2.2.2.2.2])), (h 8, .inr (0, [.ref (h 9), .ref (h 10)])), (h 10, .inl (g.2.1, 200, .inl sq))] (is1 (some (.int ((supT L st sq (plT x v t)).2.2.1))) [(h 0, .inr (2, [.ref (h 1), .ref (h 2), .ref (h 7), .ref (h 8)])), (h 2, .inr (5, [.int (nI L), .ref (h 3), .ref (h 4), .ref (h 5), .ref (h 6)])), (h 6, .inl (g.2.1, 7, .inl st)), (h 7, .inr (6, [.int (nI ((supT L st sq (plT x v t)).1)), .int ((supT L st sq (plT x v t)).2.1), .int ((supT L st sq (plT x v t)).2.2.1), .int ((supT L st sq (plT x v t)).2.2.2.1), .int ((supT L st sq (plT x v t)).2.2.2.2.1), .int ((supT L st sq (plT x v t)).2.2.2.2.2.1), .int ((supT L st sq (plT x v t)).2.2.2.2.2.2.1), .int ((supT L st sq (plT x v t)).2.2.2.2.2.2.2)])), (h 8, .inr (0, [.ref (h 9), .ref (h 10)])), (h 10, .inl (g.2.1, 200, .inl sq))]) := by
  refine Ct.walk (by decide) (Nat.le_of_ble_eq_true rfl) ?_
  intro p0 e0 s0 m0 below meth c0 A0 ls Q hQ E hr hnm hw hl
  have hx := E.x
  have hb := E.b
  have hl : lv_has ls 3 [(0, .ref (h 0)), (1, .int (nI x)), (2, .int v)] := hl
  refine lv_aload_n hx hb dX2_putsTrain_0 rfl (lv_at hl 0 rfl) ?_
  refine x_get E hw kf_X2_22 0 rfl rfl dX2_putsTrain_1 ?_
  refine lv_iload_n hx hb dX2_putsTrain_4 rfl (lv_at hl 1 rfl) ?_
  refine x_go (ws' := [(h 0, .inr (2, [.ref (h 1), .ref (h 2), .ref (h 7), .ref (h 8)])), (h 2, .inr (5, [.int (nI L), .ref (h 3), .ref (h 4), .ref (h 5), .ref (h 6)])), (h 6, .inl (g.2.1, 7, .inl st)), (h 7, .inr (6, [.int (nI t.1), .int t.2.1, .int t.2.2.1, .int t.2.2.2.1, .int t.2.2.2.2.1, .int t.2.2.2.2.2.1, .int t.2.2.2.2.2.2.1, .int t.2.2.2.2.2.2.2])), (h 8, .inr (0, [.ref (h 9), .ref (h 10)])), (h 10, .inl (g.2.1, 200, .inl sq))]) (st1 := [.int 1]) E hw [1] rfl (x_runVN (rest := []) E hw (c_X5_has_ok l g h L x (by omega) (by omega)) km_X2_54 kv_X5_has [1] rfl (by decide) 1 rfl hl.1 rfl rfl (Nat.le_of_ble_eq_true rfl) ⟨Nat.le_of_ble_eq_true rfl, Nat.le_of_ble_eq_true rfl⟩ ⟨Nat.zero_le _, Nat.zero_le _⟩ dX2_putsTrain_5) rfl rfl rfl (fun H locs hw => ?_)
  refine lv_if_eq (tgt := 21) hx hb dX2_putsTrain_8 (by decide) (fun h => absurd h (by decide)) (fun _ => ?_)
  refine lv_iload_n hx hb dX2_putsTrain_11 rfl (lv_at hl 2 rfl) ?_
  refine lv_iconst (v := 0) hx hb dX2_putsTrain_12 (by decide) ?_
  refine lv_bipush (v := 99) hx hb dX2_putsTrain_13 (by decide) ?_
  refine x_go (ws' := [(h 0, .inr (2, [.ref (h 1), .ref (h 2), .ref (h 7), .ref (h 8)])), (h 2, .inr (5, [.int (nI L), .ref (h 3), .ref (h 4), .ref (h 5), .ref (h 6)])), (h 6, .inl (g.2.1, 7, .inl st)), (h 7, .inr (6, [.int (nI t.1), .int t.2.1, .int t.2.2.1, .int t.2.2.2.1, .int t.2.2.2.2.1, .int t.2.2.2.2.2.1, .int t.2.2.2.2.2.2.1, .int t.2.2.2.2.2.2.2])), (h 8, .inr (0, [.ref (h 9), .ref (h 10)])), (h 10, .inl (g.2.1, 200, .inl sq))]) (st1 := [.int 1]) E hw [] rfl (x_runSN (rest := []) E hw (c_X7_within_ok l g v 0 99 hv hv2) km_X2_84 ks_X7_within [] rfl (by decide) hl.1 rfl rfl (Nat.le_of_ble_eq_true rfl) ⟨Nat.le_of_ble_eq_true rfl, Nat.le_of_ble_eq_true rfl⟩ ⟨Nat.zero_le _, Nat.zero_le _⟩ dX2_putsTrain_15) rfl rfl rfl (fun H locs hw => ?_)
  refine lv_if_ne (tgt := 24) hx hb dX2_putsTrain_18 (by decide) (fun _ => ?_) (fun h => absurd h (by decide))
  refine lv_aload_n hx hb dX2_putsTrain_24 rfl (lv_at hl 0 rfl) ?_
  refine x_get E hw kf_X2_27 0 rfl rfl dX2_putsTrain_25 ?_
  refine lv_iload_n hx hb dX2_putsTrain_28 rfl (lv_at hl 1 rfl) ?_
  refine lv_iload_n hx hb dX2_putsTrain_29 rfl (lv_at hl 2 rfl) ?_
  refine lv_iload_n hx hb dX2_putsTrain_30 rfl (lv_at hl 2 rfl) ?_
  refine lv_imul hx hb dX2_putsTrain_31 ?_
  refine x_go (ws' := [(h 0, .inr (2, [.ref (h 1), .ref (h 2), .ref (h 7), .ref (h 8)])), (h 2, .inr (5, [.int (nI L), .ref (h 3), .ref (h 4), .ref (h 5), .ref (h 6)])), (h 6, .inl (g.2.1, 7, .inl st)), (h 7, .inr (6, [.int (nI x), .int (v * v), .int 0, .int (nI (1000 * x)), .int (nI (1000 * x)), .int t.2.2.2.2.2.1, .int t.2.2.2.2.2.2.1, .int t.2.2.2.2.2.2.2])), (h 8, .inr (0, [.ref (h 9), .ref (h 10)])), (h 10, .inl (g.2.1, 200, .inl sq))]) (st1 := []) E hw [3] rfl (x_runVN (rest := []) E hw (c_X6_puts l g h t.1 t.2.1 t.2.2.1 t.2.2.2.1 t.2.2.2.2.1 t.2.2.2.2.2.1 t.2.2.2.2.2.2.1 t.2.2.2.2.2.2.2 x (v * v) ) km_X2_48 kv_X6_puts [3] rfl (by decide) 3 rfl hl.1 rfl rfl (Nat.le_of_ble_eq_true rfl) ⟨Nat.le_of_ble_eq_true rfl, Nat.le_of_ble_eq_true rfl⟩ ⟨Nat.zero_le _, Nat.zero_le _⟩ dX2_putsTrain_32) rfl rfl rfl (fun H locs hw => ?_)
  refine lv_aload_n hx hb dX2_putsTrain_35 rfl (lv_at hl 0 rfl) ?_
  refine x_go (ws' := [(h 0, .inr (2, [.ref (h 1), .ref (h 2), .ref (h 7), .ref (h 8)])), (h 2, .inr (5, [.int (nI L), .ref (h 3), .ref (h 4), .ref (h 5), .ref (h 6)])), (h 6, .inl (g.2.1, 7, .inl st)), (h 7, .inr (6, [.int (nI ((supT L st sq (x, v * v, 0, nI (1000 * x), nI (1000 * x), t.2.2.2.2.2.1, t.2.2.2.2.2.2.1, t.2.2.2.2.2.2.2)).1)), .int ((supT L st sq (x, v * v, 0, nI (1000 * x), nI (1000 * x), t.2.2.2.2.2.1, t.2.2.2.2.2.2.1, t.2.2.2.2.2.2.2)).2.1), .int ((supT L st sq (x, v * v, 0, nI (1000 * x), nI (1000 * x), t.2.2.2.2.2.1, t.2.2.2.2.2.2.1, t.2.2.2.2.2.2.2)).2.2.1), .int ((supT L st sq (x, v * v, 0, nI (1000 * x), nI (1000 * x), t.2.2.2.2.2.1, t.2.2.2.2.2.2.1, t.2.2.2.2.2.2.2)).2.2.2.1), .int ((supT L st sq (x, v * v, 0, nI (1000 * x), nI (1000 * x), t.2.2.2.2.2.1, t.2.2.2.2.2.2.1, t.2.2.2.2.2.2.2)).2.2.2.2.1), .int ((supT L st sq (x, v * v, 0, nI (1000 * x), nI (1000 * x), t.2.2.2.2.2.1, t.2.2.2.2.2.2.1, t.2.2.2.2.2.2.2)).2.2.2.2.2.1), .int ((supT L st sq (x, v * v, 0, nI (1000 * x), nI (1000 * x), t.2.2.2.2.2.1, t.2.2.2.2.2.2.1, t.2.2.2.2.2.2.2)).2.2.2.2.2.2.1), .int ((supT L st sq (x, v * v, 0, nI (1000 * x), nI (1000 * x), t.2.2.2.2.2.1, t.2.2.2.2.2.2.1, t.2.2.2.2.2.2.2)).2.2.2.2.2.2.2)])), (h 8, .inr (0, [.ref (h 9), .ref (h 10)])), (h 10, .inl (g.2.1, 200, .inl sq))]) (st1 := []) E hw [0, 1, 2, 3, 4, 5] rfl (x_runV (rest := []) E hw (c_X2_supervises l g h L st (x, v * v, 0, nI (1000 * x), nI (1000 * x), t.2.2.2.2.2.1, t.2.2.2.2.2.2.1, t.2.2.2.2.2.2.2) sq (by omega) (by omega)) km_X2_88 kv_X2_supervises [0, 1, 2, 3, 4, 5] rfl (by decide) 0 rfl hl.1 rfl rfl (Nat.le_of_ble_eq_true rfl) ⟨Nat.le_of_ble_eq_true rfl, Nat.le_of_ble_eq_true rfl⟩ ⟨Nat.zero_le _, Nat.zero_le _⟩ dX2_putsTrain_36) rfl rfl rfl (fun H locs hw => ?_)
  refine lv_aload_n hx hb dX2_putsTrain_39 rfl (lv_at hl 0 rfl) ?_
  refine x_get E hw kf_X2_27 0 rfl rfl dX2_putsTrain_40 ?_
  refine x_getN E hw kf_X2_91 3 rfl rfl dX2_putsTrain_43 ?_
  exact xr_i hQ E hr hw dX2_putsTrain_46 ⟨rfl, rfl⟩

set_option maxRecDepth 100000 in
set_option maxHeartbeats 4000000 in
theorem c_X2_resizes_ok (l : Launch) (g : xCfg) (h : Nat → Nat) (L : Nat) (ce : Nat → Int32) (gr : Nat → Int32) (be : Nat → Int32) (t : TV) (m : Nat) (hL : L ≤ 200) (hm : 5 ≤ m) (hm2 : m ≤ 200) : Ct l g yX2_resizes cX2_resizes 3 (some .int) (xR 2 45) [.ref (h 0), .int (nI m)] [(h 0, .inr (2, [.ref (h 1), .ref (h 2), .ref (h 7), .ref (h 8)])), (h 2, .inr (5, [.int (nI L), .ref (h 3), .ref (h 4), .ref (h 5), .ref (h 6)])), (h 3, .inl (g.2.1, 200, .inl ce)), (h 4, .inl (g.2.1, 200, .inl gr)), (h 5, .inl (g.2.1, 200, .inl be)), (h 7, .inr (6, [.int (nI t.1), .int t.2.1, .int t.2.2.1, .int t.2.2.2.1, .int t.2.2.2.2.1, .int t.2.2.2.2.2.1, .int t.2.2.2.2.2.2.1, .int t.2.2.2.2.2.2.2]))] (is1 (some (.int (nI L))) [(h 0, .inr (2, [.ref (h 1), .ref (h 2), .ref (h 7), .ref (h 8)])), (h 2, .inr (5, [.int (nI m), .ref (h 3), .ref (h 4), .ref (h 5), .ref (h 6)])), (h 3, .inl (g.2.1, 200, .inl (filF ce 40 L m))), (h 4, .inl (g.2.1, 200, .inl (filF gr 0 L m))), (h 5, .inl (g.2.1, 200, .inl (filF be 0 L m))), (h 7, .inr (6, [.int (nI ((rszT t).1)), .int ((rszT t).2.1), .int ((rszT t).2.2.1), .int ((rszT t).2.2.2.1), .int ((rszT t).2.2.2.2.1), .int ((rszT t).2.2.2.2.2.1), .int ((rszT t).2.2.2.2.2.2.1), .int ((rszT t).2.2.2.2.2.2.2)]))]) := by
  refine Ct.walk (by decide) (Nat.le_of_ble_eq_true rfl) ?_
  intro p0 e0 s0 m0 below meth c0 A0 ls Q hQ E hr hnm hw hl
  have hx := E.x
  have hb := E.b
  have hl : lv_has ls 3 [(0, .ref (h 0)), (1, .int (nI m))] := hl
  refine lv_aload_n hx hb dX2_resizes_0 rfl (lv_at hl 0 rfl) ?_
  refine x_get E hw kf_X2_22 0 rfl rfl dX2_resizes_1 ?_
  refine lv_iload_n hx hb dX2_resizes_4 rfl (lv_at hl 1 rfl) ?_
  refine x_go (ws' := [(h 0, .inr (2, [.ref (h 1), .ref (h 2), .ref (h 7), .ref (h 8)])), (h 2, .inr (5, [.int (nI m), .ref (h 3), .ref (h 4), .ref (h 5), .ref (h 6)])), (h 3, .inl (g.2.1, 200, .inl (filF ce 40 L m))), (h 4, .inl (g.2.1, 200, .inl (filF gr 0 L m))), (h 5, .inl (g.2.1, 200, .inl (filF be 0 L m))), (h 7, .inr (6, [.int (nI t.1), .int t.2.1, .int t.2.2.1, .int t.2.2.2.1, .int t.2.2.2.2.1, .int t.2.2.2.2.2.1, .int t.2.2.2.2.2.2.1, .int t.2.2.2.2.2.2.2]))]) (st1 := [.int (nI L)]) E hw [1, 2, 3, 4] rfl (x_runVN (rest := []) E hw (c_X5_resized_ok l g h L ce gr be m (by omega) (by omega) (by omega)) km_X2_42 kv_X5_resized [1, 2, 3, 4] rfl (by decide) 1 rfl hl.1 rfl rfl (Nat.le_of_ble_eq_true rfl) ⟨Nat.le_of_ble_eq_true rfl, Nat.le_of_ble_eq_true rfl⟩ ⟨Nat.zero_le _, Nat.zero_le _⟩ dX2_resizes_5) rfl rfl rfl (fun H locs hw => ?_)
  refine lv_istore_n (lv' := [(2, .int (nI L)), (0, .ref (h 0)), (1, .int (nI m))]) hx hb dX2_resizes_8 rfl hl (by decide) rfl (fun ls hl => ?_)
  refine lv_iload_n hx hb dX2_resizes_9 rfl (lv_at hl 0 rfl) ?_
  refine lv_bipush (v := -2) hx hb dX2_resizes_10 (by decide) ?_
  refine lv_icmp_eq (tgt := 24) hx hb dX2_resizes_12 (by decide) (fun ca => ?_) (fun ca => ?_)
  · exact absurd ca (nI_nn (by omega) (by decide))
  · refine lv_aload_n hx hb dX2_resizes_15 rfl (lv_at hl 1 rfl) ?_
    refine x_get E hw kf_X2_27 0 rfl rfl dX2_resizes_16 ?_
    refine lv_iconst (v := 0) hx hb dX2_resizes_19 (by decide) ?_
    refine lv_iconst (v := 0) hx hb dX2_resizes_20 (by decide) ?_
    refine x_go (ws' := [(h 0, .inr (2, [.ref (h 1), .ref (h 2), .ref (h 7), .ref (h 8)])), (h 2, .inr (5, [.int (nI m), .ref (h 3), .ref (h 4), .ref (h 5), .ref (h 6)])), (h 3, .inl (g.2.1, 200, .inl (filF ce 40 L m))), (h 4, .inl (g.2.1, 200, .inl (filF gr 0 L m))), (h 5, .inl (g.2.1, 200, .inl (filF be 0 L m))), (h 7, .inr (6, [.int 0, .int 0, .int 0, .int (nI (1000 * 0)), .int (nI (1000 * 0)), .int t.2.2.2.2.2.1, .int t.2.2.2.2.2.2.1, .int t.2.2.2.2.2.2.2]))]) (st1 := []) E hw [5] rfl (x_runVN (rest := []) E hw (c_X6_puts l g h t.1 t.2.1 t.2.2.1 t.2.2.2.1 t.2.2.2.2.1 t.2.2.2.2.2.1 t.2.2.2.2.2.2.1 t.2.2.2.2.2.2.2 0 0 ) km_X2_48 kv_X6_puts [5] rfl (by decide) 5 rfl hl.1 rfl rfl (Nat.le_of_ble_eq_true rfl) ⟨Nat.le_of_ble_eq_true rfl, Nat.le_of_ble_eq_true rfl⟩ ⟨Nat.zero_le _, Nat.zero_le _⟩ dX2_resizes_21) rfl rfl rfl (fun H locs hw => ?_)
    refine lv_iload_n hx hb dX2_resizes_24 rfl (lv_at hl 0 rfl) ?_
    exact xr_i hQ E hr hw dX2_resizes_25 ⟨rfl, rfl⟩

set_option maxRecDepth 100000 in
set_option maxHeartbeats 4000000 in
theorem c_X2_redraws (l : Launch) (g : xCfg) (h : Nat → Nat) (fo : Nat → Int32) (sq : Nat → Int32) (L : Nat) (ce : Nat → Int32) (gr : Nat → Int32) (st : Nat → Int32) (len : Nat) (hL : L ≤ 200) (hlen : st 2 = nI len) (hl1 : 1 ≤ len) (hl2 : len ≤ 30) : Ct l g yX2_redraws cX2_redraws 1 none (xR 3 71) [.ref (h 0)] [(h 0, .inr (2, [.ref (h 1), .ref (h 2), .ref (h 7), .ref (h 8)])), (h 8, .inr (0, [.ref (h 9), .ref (h 10)])), (h 9, .inl (g.2.1, 200, .inl fo)), (h 10, .inl (g.2.1, 200, .inl sq)), (h 2, .inr (5, [.int (nI L), .ref (h 3), .ref (h 4), .ref (h 5), .ref (h 6)])), (h 3, .inl (g.2.1, 200, .inl ce)), (h 4, .inl (g.2.1, 200, .inl gr)), (h 6, .inl (g.2.1, 7, .inl st))] (is1 none [(h 0, .inr (2, [.ref (h 1), .ref (h 2), .ref (h 7), .ref (h 8)])), (h 8, .inr (0, [.ref (h 9), .ref (h 10)])), (h 9, .inl (g.2.1, 200, .inl (dcF ce len L fo))), (h 10, .inl (g.2.1, 200, .inl (lwS (dcF ce len L fo) gr (st 0) L 0 sq))), (h 2, .inr (5, [.int (nI L), .ref (h 3), .ref (h 4), .ref (h 5), .ref (h 6)])), (h 3, .inl (g.2.1, 200, .inl ce)), (h 4, .inl (g.2.1, 200, .inl gr)), (h 6, .inl (g.2.1, 7, .inl st))]) := by
  refine Ct.walk (by decide) (Nat.le_of_ble_eq_true rfl) ?_
  intro p0 e0 s0 m0 below meth c0 A0 ls Q hQ E hr hnm hw hl
  have hx := E.x
  have hb := E.b
  have hl : lv_has ls 1 [(0, .ref (h 0))] := hl
  refine lv_aload_n hx hb dX2_redraws_0 rfl (lv_at hl 0 rfl) ?_
  refine x_get E hw kf_X2_31 0 rfl rfl dX2_redraws_1 ?_
  refine lv_aload_n hx hb dX2_redraws_4 rfl (lv_at hl 0 rfl) ?_
  refine x_get E hw kf_X2_22 0 rfl rfl dX2_redraws_5 ?_
  refine x_go (ws' := [(h 0, .inr (2, [.ref (h 1), .ref (h 2), .ref (h 7), .ref (h 8)])), (h 8, .inr (0, [.ref (h 9), .ref (h 10)])), (h 9, .inl (g.2.1, 200, .inl (dcF ce len L fo))), (h 10, .inl (g.2.1, 200, .inl (lwS (dcF ce len L fo) gr (st 0) L 0 sq))), (h 2, .inr (5, [.int (nI L), .ref (h 3), .ref (h 4), .ref (h 5), .ref (h 6)])), (h 3, .inl (g.2.1, 200, .inl ce)), (h 4, .inl (g.2.1, 200, .inl gr)), (h 6, .inl (g.2.1, 7, .inl st))]) (st1 := []) E hw [1, 2, 3, 4, 5, 6, 7] rfl (x_runVN (rest := []) E hw (c_X0_draws l g h fo sq L ce gr st len (by omega) hlen (by omega) (by omega)) km_X2_38 kv_X0_draws [1, 2, 3, 4, 5, 6, 7] rfl (by decide) 1 rfl hl.1 rfl rfl (Nat.le_of_ble_eq_true rfl) ⟨Nat.le_of_ble_eq_true rfl, Nat.le_of_ble_eq_true rfl⟩ ⟨Nat.zero_le _, Nat.zero_le _⟩ dX2_redraws_8) rfl rfl rfl (fun H locs hw => ?_)
  exact xr_v hQ E hr hw dX2_redraws_11 ⟨rfl, rfl⟩

set_option maxRecDepth 100000 in
set_option maxHeartbeats 4000000 in
theorem c_X2_countPermitted (l : Launch) (g : xCfg) (h : Nat → Nat) (L : Nat) (sq : Nat → Int32) (v : Int32) (hL : L ≤ 200) : Ct l g yX2_countPermitted cX2_countPermitted 4 (some .int) (xR 1 23) [.ref (h 0), .int v] [(h 0, .inr (2, [.ref (h 1), .ref (h 2), .ref (h 7), .ref (h 8)])), (h 2, .inr (5, [.int (nI L), .ref (h 3), .ref (h 4), .ref (h 5), .ref (h 6)])), (h 8, .inr (0, [.ref (h 9), .ref (h 10)])), (h 10, .inl (g.2.1, 200, .inl sq))] (is1 (some (.int (nI (cntP sq v L)))) [(h 0, .inr (2, [.ref (h 1), .ref (h 2), .ref (h 7), .ref (h 8)])), (h 2, .inr (5, [.int (nI L), .ref (h 3), .ref (h 4), .ref (h 5), .ref (h 6)])), (h 8, .inr (0, [.ref (h 9), .ref (h 10)])), (h 10, .inl (g.2.1, 200, .inl sq))]) := by
  refine Ct.walk (by decide) (Nat.le_of_ble_eq_true rfl) ?_
  intro p0 e0 s0 m0 below meth c0 A0 ls Q hQ E hr hnm hw hl
  have hx := E.x
  have hb := E.b
  have hl : lv_has ls 4 [(0, .ref (h 0)), (1, .int v)] := hl
  refine lv_iconst (v := 0) hx hb dX2_countPermitted_0 (by decide) ?_
  refine lv_istore_n (lv' := [(2, .int 0), (0, .ref (h 0)), (1, .int v)]) hx hb dX2_countPermitted_1 rfl hl (by decide) rfl (fun ls hl => ?_)
  refine lv_iconst (v := 0) hx hb dX2_countPermitted_2 (by decide) ?_
  refine lv_istore_n (lv' := [(3, .int 0), (2, .int 0), (0, .ref (h 0)), (1, .int v)]) hx hb dX2_countPermitted_3 rfl hl (by decide) rfl (fun ls hl => ?_)
  have lp_4 : ∀ (fuel : Nat) (x : Nat), L - x < fuel → x ≤ L → ∀ (H : Heap) (locs : List Loc) (ls : Array Slot), xW g A0 s0 [(h 0, .inr (2, [.ref (h 1), .ref (h 2), .ref (h 7), .ref (h 8)])), (h 2, .inr (5, [.int (nI L), .ref (h 3), .ref (h 4), .ref (h 5), .ref (h 6)])), (h 8, .inr (0, [.ref (h 9), .ref (h 10)])), (h 10, .inl (g.2.1, 200, .inl sq))] H locs → lv_has ls 4 [(3, .int (nI x)), (2, .int (nI (cntP sq v x))), (0, .ref (h 0)), (1, .int v)] → W p0 l e0 (xR 1 23) s0 m0 [.ref (h 0), .int v].toArray below meth c0 H locs 0 0 Q (F0 m0 4 ls []) := by
    intro fuel
    induction fuel with
    | zero => intro x hm; exact absurd hm (Nat.not_lt_zero _)
    | succ fuel ih =>
      intro x hm h1 H locs ls hw hl
      refine lv_iload_n hx hb dX2_countPermitted_4 rfl (lv_at hl 0 rfl) ?_
      refine lv_aload_n hx hb dX2_countPermitted_5 rfl (lv_at hl 2 rfl) ?_
      refine x_get E hw kf_X2_22 0 rfl rfl dX2_countPermitted_6 ?_
      refine x_getN E hw kf_X2_74 1 rfl rfl dX2_countPermitted_9 ?_
      refine xn_ge (tgt := 40) hx hb x L rfl rfl (by omega) (by omega) dX2_countPermitted_12 (by decide) (fun c_1 => ?_) (fun c_1 => ?_)
      · obtain rfl : x = L := by omega
        refine lv_iload_n hx hb dX2_countPermitted_40 rfl (lv_at hl 1 rfl) ?_
        exact xr_i hQ E hr hw dX2_countPermitted_41 ⟨rfl, rfl⟩
      · refine lv_aload_n hx hb dX2_countPermitted_15 rfl (lv_at hl 2 rfl) ?_
        refine x_get E hw kf_X2_31 0 rfl rfl dX2_countPermitted_16 ?_
        refine x_getN E hw kf_X2_78 2 rfl rfl dX2_countPermitted_19 ?_
        refine lv_iload_n hx hb dX2_countPermitted_22 rfl (lv_at hl 0 rfl) ?_
        refine x_ld (v := sq x) E hw 3 rfl x rfl (by omega) (by decide) rfl dX2_countPermitted_23 ?_
        refine x_go (ws' := [(h 0, .inr (2, [.ref (h 1), .ref (h 2), .ref (h 7), .ref (h 8)])), (h 2, .inr (5, [.int (nI L), .ref (h 3), .ref (h 4), .ref (h 5), .ref (h 6)])), (h 8, .inr (0, [.ref (h 9), .ref (h 10)])), (h 10, .inl (g.2.1, 200, .inl sq))]) (st1 := [.int (nI (rtL 15 0 (sq x)))]) E hw [] rfl (x_runSN (rest := []) E hw (c_X7_root l g (sq x) ) km_X2_81 ks_X7_root [] rfl (by decide) hl.1 rfl rfl (Nat.le_of_ble_eq_true rfl) ⟨Nat.le_of_ble_eq_true rfl, Nat.le_of_ble_eq_true rfl⟩ ⟨Nat.zero_le _, Nat.zero_le _⟩ dX2_countPermitted_24) rfl rfl rfl (fun H locs hw => ?_)
        refine lv_iload_n hx hb dX2_countPermitted_27 rfl (lv_at hl 3 rfl) ?_
        refine lv_icmp_ne (tgt := 34) hx hb dX2_countPermitted_28 (by decide) (fun ce => ?_) (fun ce => ?_)
        · refine lv_iinc (v := nI (x + 1)) (lv' := [(3, .int (nI (x + 1))), (2, .int (nI (cntP sq v x))), (0, .ref (h 0)), (1, .int v)]) hx hb dX2_countPermitted_34 hl (k := 0) rfl (nI_1 _) (by decide) rfl (fun ls hl => ?_)
          refine lv_goto (tgt := 4) hx hb dX2_countPermitted_37 (by decide) ?_
          have hl : lv_has ls 4 [(3, .int (nI (x + 1))), (2, .int (nI (cntP sq v x))), (0, .ref (h 0)), (1, .int v)] := lv_sub hl [0, 1, 2, 3] rfl
          have hl : lv_has ls 4 [(3, .int (nI (x + 1))), (2, .int (nI (cntP sq v (x + 1)))), (0, .ref (h 0)), (1, .int v)] := lv_re hl (by rw [show (nI (cntP sq v x) : Int32) = nI (cntP sq v (x + 1)) from congrArg nI ((cntP_n ce).symm)])
          have hw : xW g A0 s0 [(h 0, .inr (2, [.ref (h 1), .ref (h 2), .ref (h 7), .ref (h 8)])), (h 2, .inr (5, [.int (nI L), .ref (h 3), .ref (h 4), .ref (h 5), .ref (h 6)])), (h 8, .inr (0, [.ref (h 9), .ref (h 10)])), (h 10, .inl (g.2.1, 200, .inl sq))] _ _ := hw
          exact ih (x + 1) (by omega) (by omega) _ _ _ hw hl
        · refine lv_iinc (v := nI (cntP sq v x + 1)) (lv' := [(2, .int (nI (cntP sq v x + 1))), (3, .int (nI x)), (0, .ref (h 0)), (1, .int v)]) hx hb dX2_countPermitted_31 hl (k := 1) rfl (nI_1 _) (by decide) rfl (fun ls hl => ?_)
          refine lv_iinc (v := nI (x + 1)) (lv' := [(3, .int (nI (x + 1))), (2, .int (nI (cntP sq v x + 1))), (0, .ref (h 0)), (1, .int v)]) hx hb dX2_countPermitted_34 hl (k := 1) rfl (nI_1 _) (by decide) rfl (fun ls hl => ?_)
          refine lv_goto (tgt := 4) hx hb dX2_countPermitted_37 (by decide) ?_
          have hl : lv_has ls 4 [(3, .int (nI (x + 1))), (2, .int (nI (cntP sq v x + 1))), (0, .ref (h 0)), (1, .int v)] := lv_sub hl [0, 1, 2, 3] rfl
          have hl : lv_has ls 4 [(3, .int (nI (x + 1))), (2, .int (nI (cntP sq v (x + 1)))), (0, .ref (h 0)), (1, .int v)] := lv_re hl (by rw [show (nI (cntP sq v x + 1) : Int32) = nI (cntP sq v (x + 1)) from congrArg nI ((cntP_y ce).symm)])
          have hw : xW g A0 s0 [(h 0, .inr (2, [.ref (h 1), .ref (h 2), .ref (h 7), .ref (h 8)])), (h 2, .inr (5, [.int (nI L), .ref (h 3), .ref (h 4), .ref (h 5), .ref (h 6)])), (h 8, .inr (0, [.ref (h 9), .ref (h 10)])), (h 10, .inl (g.2.1, 200, .inl sq))] _ _ := hw
          exact ih (x + 1) (by omega) (by omega) _ _ _ hw hl
  have hl : lv_has ls 4 [(3, .int 0), (2, .int 0), (0, .ref (h 0)), (1, .int v)] := lv_sub hl [0, 1, 2, 3] rfl
  have hl : lv_has ls 4 [(3, .int 0), (2, .int (nI (cntP sq v 0))), (0, .ref (h 0)), (1, .int v)] := lv_re hl (by rw [show (0 : Int32) = nI (cntP sq v 0) from congrArg nI rfl])
  have hw : xW g A0 s0 [(h 0, .inr (2, [.ref (h 1), .ref (h 2), .ref (h 7), .ref (h 8)])), (h 2, .inr (5, [.int (nI L), .ref (h 3), .ref (h 4), .ref (h 5), .ref (h 6)])), (h 8, .inr (0, [.ref (h 9), .ref (h 10)])), (h 10, .inl (g.2.1, 200, .inl sq))] _ _ := hw
  exact lp_4 ((L - 0) + 1) 0 (Nat.lt_succ_self _) (by omega) _ _ _ hw hl

set_option maxRecDepth 100000 in
set_option maxHeartbeats 4000000 in
theorem c_X2_trainValue_0 (l : Launch) (g : xCfg) (h : Nat → Nat) (L : Nat) (gr : Nat → Int32) (st : Nat → Int32) (t : TV) (sq : Nat → Int32) (hL1 : 1 ≤ L) (hL : L ≤ 200) (hf : t.1 < 200) : Ct l g yX2_trainValue cX2_trainValue 2 (some .int) (xR 4 81) [.ref (h 0), .int 0] [(h 0, .inr (2, [.ref (h 1), .ref (h 2), .ref (h 7), .ref (h 8)])), (h 2, .inr (5, [.int (nI L), .ref (h 3), .ref (h 4), .ref (h 5), .ref (h 6)])), (h 4, .inl (g.2.1, 200, .inl gr)), (h 6, .inl (g.2.1, 7, .inl st)), (h 7, .inr (6, [.int (nI t.1), .int t.2.1, .int t.2.2.1, .int t.2.2.2.1, .int t.2.2.2.2.1, .int t.2.2.2.2.2.1, .int t.2.2.2.2.2.2.1, .int t.2.2.2.2.2.2.2])), (h 8, .inr (0, [.ref (h 9), .ref (h 10)])), (h 10, .inl (g.2.1, 200, .inl sq))] (is1 (some (.int (trvF L gr st sq t 0))) [(h 0, .inr (2, [.ref (h 1), .ref (h 2), .ref (h 7), .ref (h 8)])), (h 2, .inr (5, [.int (nI L), .ref (h 3), .ref (h 4), .ref (h 5), .ref (h 6)])), (h 4, .inl (g.2.1, 200, .inl gr)), (h 6, .inl (g.2.1, 7, .inl st)), (h 7, .inr (6, [.int (nI t.1), .int t.2.1, .int t.2.2.1, .int t.2.2.2.1, .int t.2.2.2.2.1, .int t.2.2.2.2.2.1, .int t.2.2.2.2.2.2.1, .int t.2.2.2.2.2.2.2])), (h 8, .inr (0, [.ref (h 9), .ref (h 10)])), (h 10, .inl (g.2.1, 200, .inl sq))]) := by
  refine Ct.walk (by decide) (Nat.le_of_ble_eq_true rfl) ?_
  intro p0 e0 s0 m0 below meth c0 A0 ls Q hQ E hr hnm hw hl
  have hx := E.x
  have hb := E.b
  have hl : lv_has ls 2 [(0, .ref (h 0)), (1, .int 0)] := hl
  refine lv_iload_n hx hb dX2_trainValue_0 rfl (lv_at hl 1 rfl) ?_
  refine x_sw (v := 0) (off := 67) (tgt := 68) hx hb dX2_trainValue_1 rfl (by decide) (by decide) (by decide) (by decide) ?_
  refine lv_aload_n hx hb dX2_trainValue_68 rfl (lv_at hl 0 rfl) ?_
  refine x_get E hw kf_X2_27 0 rfl rfl dX2_trainValue_69 ?_
  refine x_getN E hw kf_X2_108 4 rfl rfl dX2_trainValue_72 ?_
  exact xr_i hQ E hr hw dX2_trainValue_75 ⟨rfl, rfl⟩

set_option maxRecDepth 100000 in
set_option maxHeartbeats 4000000 in
theorem c_X2_trainValue_1 (l : Launch) (g : xCfg) (h : Nat → Nat) (L : Nat) (gr : Nat → Int32) (st : Nat → Int32) (t : TV) (sq : Nat → Int32) (hL1 : 1 ≤ L) (hL : L ≤ 200) (hf : t.1 < 200) : Ct l g yX2_trainValue cX2_trainValue 2 (some .int) (xR 4 81) [.ref (h 0), .int 1] [(h 0, .inr (2, [.ref (h 1), .ref (h 2), .ref (h 7), .ref (h 8)])), (h 2, .inr (5, [.int (nI L), .ref (h 3), .ref (h 4), .ref (h 5), .ref (h 6)])), (h 4, .inl (g.2.1, 200, .inl gr)), (h 6, .inl (g.2.1, 7, .inl st)), (h 7, .inr (6, [.int (nI t.1), .int t.2.1, .int t.2.2.1, .int t.2.2.2.1, .int t.2.2.2.2.1, .int t.2.2.2.2.2.1, .int t.2.2.2.2.2.2.1, .int t.2.2.2.2.2.2.2])), (h 8, .inr (0, [.ref (h 9), .ref (h 10)])), (h 10, .inl (g.2.1, 200, .inl sq))] (is1 (some (.int (trvF L gr st sq t 1))) [(h 0, .inr (2, [.ref (h 1), .ref (h 2), .ref (h 7), .ref (h 8)])), (h 2, .inr (5, [.int (nI L), .ref (h 3), .ref (h 4), .ref (h 5), .ref (h 6)])), (h 4, .inl (g.2.1, 200, .inl gr)), (h 6, .inl (g.2.1, 7, .inl st)), (h 7, .inr (6, [.int (nI t.1), .int t.2.1, .int t.2.2.1, .int t.2.2.2.1, .int t.2.2.2.2.1, .int t.2.2.2.2.2.1, .int t.2.2.2.2.2.2.1, .int t.2.2.2.2.2.2.2])), (h 8, .inr (0, [.ref (h 9), .ref (h 10)])), (h 10, .inl (g.2.1, 200, .inl sq))]) := by
  refine Ct.walk (by decide) (Nat.le_of_ble_eq_true rfl) ?_
  intro p0 e0 s0 m0 below meth c0 A0 ls Q hQ E hr hnm hw hl
  have hx := E.x
  have hb := E.b
  have hl : lv_has ls 2 [(0, .ref (h 0)), (1, .int 1)] := hl
  refine lv_iload_n hx hb dX2_trainValue_0 rfl (lv_at hl 1 rfl) ?_
  refine x_sw (v := 1) (off := 75) (tgt := 76) hx hb dX2_trainValue_1 rfl (by decide) (by decide) (by decide) (by decide) ?_
  refine lv_aload_n hx hb dX2_trainValue_76 rfl (lv_at hl 0 rfl) ?_
  refine x_get E hw kf_X2_27 0 rfl rfl dX2_trainValue_77 ?_
  refine x_getN E hw kf_X2_101 4 rfl rfl dX2_trainValue_80 ?_
  exact xr_i hQ E hr hw dX2_trainValue_83 ⟨rfl, rfl⟩

set_option maxRecDepth 100000 in
set_option maxHeartbeats 4000000 in
theorem c_X2_trainValue_2 (l : Launch) (g : xCfg) (h : Nat → Nat) (L : Nat) (gr : Nat → Int32) (st : Nat → Int32) (t : TV) (sq : Nat → Int32) (hL1 : 1 ≤ L) (hL : L ≤ 200) (hf : t.1 < 200) : Ct l g yX2_trainValue cX2_trainValue 2 (some .int) (xR 4 81) [.ref (h 0), .int 2] [(h 0, .inr (2, [.ref (h 1), .ref (h 2), .ref (h 7), .ref (h 8)])), (h 2, .inr (5, [.int (nI L), .ref (h 3), .ref (h 4), .ref (h 5), .ref (h 6)])), (h 4, .inl (g.2.1, 200, .inl gr)), (h 6, .inl (g.2.1, 7, .inl st)), (h 7, .inr (6, [.int (nI t.1), .int t.2.1, .int t.2.2.1, .int t.2.2.2.1, .int t.2.2.2.2.1, .int t.2.2.2.2.2.1, .int t.2.2.2.2.2.2.1, .int t.2.2.2.2.2.2.2])), (h 8, .inr (0, [.ref (h 9), .ref (h 10)])), (h 10, .inl (g.2.1, 200, .inl sq))] (is1 (some (.int (trvF L gr st sq t 2))) [(h 0, .inr (2, [.ref (h 1), .ref (h 2), .ref (h 7), .ref (h 8)])), (h 2, .inr (5, [.int (nI L), .ref (h 3), .ref (h 4), .ref (h 5), .ref (h 6)])), (h 4, .inl (g.2.1, 200, .inl gr)), (h 6, .inl (g.2.1, 7, .inl st)), (h 7, .inr (6, [.int (nI t.1), .int t.2.1, .int t.2.2.1, .int t.2.2.2.1, .int t.2.2.2.2.1, .int t.2.2.2.2.2.1, .int t.2.2.2.2.2.2.1, .int t.2.2.2.2.2.2.2])), (h 8, .inr (0, [.ref (h 9), .ref (h 10)])), (h 10, .inl (g.2.1, 200, .inl sq))]) := by
  refine Ct.walk (by decide) (Nat.le_of_ble_eq_true rfl) ?_
  intro p0 e0 s0 m0 below meth c0 A0 ls Q hQ E hr hnm hw hl
  have hx := E.x
  have hb := E.b
  have hl : lv_has ls 2 [(0, .ref (h 0)), (1, .int 2)] := hl
  refine lv_iload_n hx hb dX2_trainValue_0 rfl (lv_at hl 1 rfl) ?_
  refine x_sw (v := 2) (off := 83) (tgt := 84) hx hb dX2_trainValue_1 rfl (by decide) (by decide) (by decide) (by decide) ?_
  refine lv_aload_n hx hb dX2_trainValue_84 rfl (lv_at hl 0 rfl) ?_
  refine x_get E hw kf_X2_27 0 rfl rfl dX2_trainValue_85 ?_
  refine x_getN E hw kf_X2_101 4 rfl rfl dX2_trainValue_88 ?_
  refine x_go (ws' := [(h 0, .inr (2, [.ref (h 1), .ref (h 2), .ref (h 7), .ref (h 8)])), (h 2, .inr (5, [.int (nI L), .ref (h 3), .ref (h 4), .ref (h 5), .ref (h 6)])), (h 4, .inl (g.2.1, 200, .inl gr)), (h 6, .inl (g.2.1, 7, .inl st)), (h 7, .inr (6, [.int (nI t.1), .int t.2.1, .int t.2.2.1, .int t.2.2.2.1, .int t.2.2.2.2.1, .int t.2.2.2.2.2.1, .int t.2.2.2.2.2.2.1, .int t.2.2.2.2.2.2.2])), (h 8, .inr (0, [.ref (h 9), .ref (h 10)])), (h 10, .inl (g.2.1, 200, .inl sq))]) (st1 := [.int (nI (rtL 15 0 t.2.1))]) E hw [] rfl (x_runSN (rest := []) E hw (c_X7_root l g t.2.1 ) km_X2_81 ks_X7_root [] rfl (by decide) hl.1 rfl rfl (Nat.le_of_ble_eq_true rfl) ⟨Nat.le_of_ble_eq_true rfl, Nat.le_of_ble_eq_true rfl⟩ ⟨Nat.zero_le _, Nat.zero_le _⟩ dX2_trainValue_91) rfl rfl rfl (fun H locs hw => ?_)
  exact xr_i hQ E hr hw dX2_trainValue_94 ⟨rfl, rfl⟩

set_option maxRecDepth 100000 in
set_option maxHeartbeats 4000000 in
theorem c_X2_trainValue_3 (l : Launch) (g : xCfg) (h : Nat → Nat) (L : Nat) (gr : Nat → Int32) (st : Nat → Int32) (t : TV) (sq : Nat → Int32) (hL1 : 1 ≤ L) (hL : L ≤ 200) (hf : t.1 < 200) : Ct l g yX2_trainValue cX2_trainValue 2 (some .int) (xR 4 81) [.ref (h 0), .int 3] [(h 0, .inr (2, [.ref (h 1), .ref (h 2), .ref (h 7), .ref (h 8)])), (h 2, .inr (5, [.int (nI L), .ref (h 3), .ref (h 4), .ref (h 5), .ref (h 6)])), (h 4, .inl (g.2.1, 200, .inl gr)), (h 6, .inl (g.2.1, 7, .inl st)), (h 7, .inr (6, [.int (nI t.1), .int t.2.1, .int t.2.2.1, .int t.2.2.2.1, .int t.2.2.2.2.1, .int t.2.2.2.2.2.1, .int t.2.2.2.2.2.2.1, .int t.2.2.2.2.2.2.2])), (h 8, .inr (0, [.ref (h 9), .ref (h 10)])), (h 10, .inl (g.2.1, 200, .inl sq))] (is1 (some (.int (trvF L gr st sq t 3))) [(h 0, .inr (2, [.ref (h 1), .ref (h 2), .ref (h 7), .ref (h 8)])), (h 2, .inr (5, [.int (nI L), .ref (h 3), .ref (h 4), .ref (h 5), .ref (h 6)])), (h 4, .inl (g.2.1, 200, .inl gr)), (h 6, .inl (g.2.1, 7, .inl st)), (h 7, .inr (6, [.int (nI t.1), .int t.2.1, .int t.2.2.1, .int t.2.2.2.1, .int t.2.2.2.2.1, .int t.2.2.2.2.2.1, .int t.2.2.2.2.2.2.1, .int t.2.2.2.2.2.2.2])), (h 8, .inr (0, [.ref (h 9), .ref (h 10)])), (h 10, .inl (g.2.1, 200, .inl sq))]) := by
  refine Ct.walk (by decide) (Nat.le_of_ble_eq_true rfl) ?_
  intro p0 e0 s0 m0 below meth c0 A0 ls Q hQ E hr hnm hw hl
  have hx := E.x
  have hb := E.b
  have hl : lv_has ls 2 [(0, .ref (h 0)), (1, .int 3)] := hl
  refine lv_iload_n hx hb dX2_trainValue_0 rfl (lv_at hl 1 rfl) ?_
  refine x_sw (v := 3) (off := 94) (tgt := 95) hx hb dX2_trainValue_1 rfl (by decide) (by decide) (by decide) (by decide) ?_
  refine lv_aload_n hx hb dX2_trainValue_95 rfl (lv_at hl 0 rfl) ?_
  refine x_get E hw kf_X2_27 0 rfl rfl dX2_trainValue_96 ?_
  refine x_getN E hw kf_X2_91 4 rfl rfl dX2_trainValue_99 ?_
  exact xr_i hQ E hr hw dX2_trainValue_102 ⟨rfl, rfl⟩

set_option maxRecDepth 100000 in
set_option maxHeartbeats 4000000 in
theorem c_X2_trainValue_4 (l : Launch) (g : xCfg) (h : Nat → Nat) (L : Nat) (gr : Nat → Int32) (st : Nat → Int32) (t : TV) (sq : Nat → Int32) (hL1 : 1 ≤ L) (hL : L ≤ 200) (hf : t.1 < 200) : Ct l g yX2_trainValue cX2_trainValue 2 (some .int) (xR 4 81) [.ref (h 0), .int 4] [(h 0, .inr (2, [.ref (h 1), .ref (h 2), .ref (h 7), .ref (h 8)])), (h 2, .inr (5, [.int (nI L), .ref (h 3), .ref (h 4), .ref (h 5), .ref (h 6)])), (h 4, .inl (g.2.1, 200, .inl gr)), (h 6, .inl (g.2.1, 7, .inl st)), (h 7, .inr (6, [.int (nI t.1), .int t.2.1, .int t.2.2.1, .int t.2.2.2.1, .int t.2.2.2.2.1, .int t.2.2.2.2.2.1, .int t.2.2.2.2.2.2.1, .int t.2.2.2.2.2.2.2])), (h 8, .inr (0, [.ref (h 9), .ref (h 10)])), (h 10, .inl (g.2.1, 200, .inl sq))] (is1 (some (.int (trvF L gr st sq t 4))) [(h 0, .inr (2, [.ref (h 1), .ref (h 2), .ref (h 7), .ref (h 8)])), (h 2, .inr (5, [.int (nI L), .ref (h 3), .ref (h 4), .ref (h 5), .ref (h 6)])), (h 4, .inl (g.2.1, 200, .inl gr)), (h 6, .inl (g.2.1, 7, .inl st)), (h 7, .inr (6, [.int (nI t.1), .int t.2.1, .int t.2.2.1, .int t.2.2.2.1, .int t.2.2.2.2.1, .int t.2.2.2.2.2.1, .int t.2.2.2.2.2.2.1, .int t.2.2.2.2.2.2.2])), (h 8, .inr (0, [.ref (h 9), .ref (h 10)])), (h 10, .inl (g.2.1, 200, .inl sq))]) := by
  refine Ct.walk (by decide) (Nat.le_of_ble_eq_true rfl) ?_
  intro p0 e0 s0 m0 below meth c0 A0 ls Q hQ E hr hnm hw hl
  have hx := E.x
  have hb := E.b
  have hl : lv_has ls 2 [(0, .ref (h 0)), (1, .int 4)] := hl
  refine lv_iload_n hx hb dX2_trainValue_0 rfl (lv_at hl 1 rfl) ?_
  refine x_sw (v := 4) (off := 102) (tgt := 103) hx hb dX2_trainValue_1 rfl (by decide) (by decide) (by decide) (by decide) ?_
  refine lv_aload_n hx hb dX2_trainValue_103 rfl (lv_at hl 0 rfl) ?_
  refine x_get E hw kf_X2_27 0 rfl rfl dX2_trainValue_104 ?_
  refine x_getN E hw kf_X2_140 4 rfl rfl dX2_trainValue_107 ?_
  exact xr_i hQ E hr hw dX2_trainValue_110 ⟨rfl, rfl⟩

set_option maxRecDepth 100000 in
set_option maxHeartbeats 4000000 in
theorem c_X2_trainValue_5 (l : Launch) (g : xCfg) (h : Nat → Nat) (L : Nat) (gr : Nat → Int32) (st : Nat → Int32) (t : TV) (sq : Nat → Int32) (hL1 : 1 ≤ L) (hL : L ≤ 200) (hf : t.1 < 200) : Ct l g yX2_trainValue cX2_trainValue 2 (some .int) (xR 4 81) [.ref (h 0), .int 5] [(h 0, .inr (2, [.ref (h 1), .ref (h 2), .ref (h 7), .ref (h 8)])), (h 2, .inr (5, [.int (nI L), .ref (h 3), .ref (h 4), .ref (h 5), .ref (h 6)])), (h 4, .inl (g.2.1, 200, .inl gr)), (h 6, .inl (g.2.1, 7, .inl st)), (h 7, .inr (6, [.int (nI t.1), .int t.2.1, .int t.2.2.1, .int t.2.2.2.1, .int t.2.2.2.2.1, .int t.2.2.2.2.2.1, .int t.2.2.2.2.2.2.1, .int t.2.2.2.2.2.2.2])), (h 8, .inr (0, [.ref (h 9), .ref (h 10)])), (h 10, .inl (g.2.1, 200, .inl sq))] (is1 (some (.int (trvF L gr st sq t 5))) [(h 0, .inr (2, [.ref (h 1), .ref (h 2), .ref (h 7), .ref (h 8)])), (h 2, .inr (5, [.int (nI L), .ref (h 3), .ref (h 4), .ref (h 5), .ref (h 6)])), (h 4, .inl (g.2.1, 200, .inl gr)), (h 6, .inl (g.2.1, 7, .inl st)), (h 7, .inr (6, [.int (nI t.1), .int t.2.1, .int t.2.2.1, .int t.2.2.2.1, .int t.2.2.2.2.1, .int t.2.2.2.2.2.1, .int t.2.2.2.2.2.2.1, .int t.2.2.2.2.2.2.2])), (h 8, .inr (0, [.ref (h 9), .ref (h 10)])), (h 10, .inl (g.2.1, 200, .inl sq))]) := by
  refine Ct.walk (by decide) (Nat.le_of_ble_eq_true rfl) ?_
  intro p0 e0 s0 m0 below meth c0 A0 ls Q hQ E hr hnm hw hl
  have hx := E.x
  have hb := E.b
  have hl : lv_has ls 2 [(0, .ref (h 0)), (1, .int 5)] := hl
  refine lv_iload_n hx hb dX2_trainValue_0 rfl (lv_at hl 1 rfl) ?_
  refine x_sw (v := 5) (off := 110) (tgt := 111) hx hb dX2_trainValue_1 rfl (by decide) (by decide) (by decide) (by decide) ?_
  refine lv_aload_n hx hb dX2_trainValue_111 rfl (lv_at hl 0 rfl) ?_
  refine x_get E hw kf_X2_27 0 rfl rfl dX2_trainValue_112 ?_
  refine x_getN E hw kf_X2_146 4 rfl rfl dX2_trainValue_115 ?_
  exact xr_i hQ E hr hw dX2_trainValue_118 ⟨rfl, rfl⟩

set_option maxRecDepth 100000 in
set_option maxHeartbeats 4000000 in
theorem c_X2_trainValue_6 (l : Launch) (g : xCfg) (h : Nat → Nat) (L : Nat) (gr : Nat → Int32) (st : Nat → Int32) (t : TV) (sq : Nat → Int32) (hL1 : 1 ≤ L) (hL : L ≤ 200) (hf : t.1 < 200) : Ct l g yX2_trainValue cX2_trainValue 2 (some .int) (xR 4 81) [.ref (h 0), .int 6] [(h 0, .inr (2, [.ref (h 1), .ref (h 2), .ref (h 7), .ref (h 8)])), (h 2, .inr (5, [.int (nI L), .ref (h 3), .ref (h 4), .ref (h 5), .ref (h 6)])), (h 4, .inl (g.2.1, 200, .inl gr)), (h 6, .inl (g.2.1, 7, .inl st)), (h 7, .inr (6, [.int (nI t.1), .int t.2.1, .int t.2.2.1, .int t.2.2.2.1, .int t.2.2.2.2.1, .int t.2.2.2.2.2.1, .int t.2.2.2.2.2.2.1, .int t.2.2.2.2.2.2.2])), (h 8, .inr (0, [.ref (h 9), .ref (h 10)])), (h 10, .inl (g.2.1, 200, .inl sq))] (is1 (some (.int (trvF L gr st sq t 6))) [(h 0, .inr (2, [.ref (h 1), .ref (h 2), .ref (h 7), .ref (h 8)])), (h 2, .inr (5, [.int (nI L), .ref (h 3), .ref (h 4), .ref (h 5), .ref (h 6)])), (h 4, .inl (g.2.1, 200, .inl gr)), (h 6, .inl (g.2.1, 7, .inl st)), (h 7, .inr (6, [.int (nI t.1), .int t.2.1, .int t.2.2.1, .int t.2.2.2.1, .int t.2.2.2.2.1, .int t.2.2.2.2.2.1, .int t.2.2.2.2.2.2.1, .int t.2.2.2.2.2.2.2])), (h 8, .inr (0, [.ref (h 9), .ref (h 10)])), (h 10, .inl (g.2.1, 200, .inl sq))]) := by
  refine Ct.walk (by decide) (Nat.le_of_ble_eq_true rfl) ?_
  intro p0 e0 s0 m0 below meth c0 A0 ls Q hQ E hr hnm hw hl
  have hx := E.x
  have hb := E.b
  have hl : lv_has ls 2 [(0, .ref (h 0)), (1, .int 6)] := hl
  refine lv_iload_n hx hb dX2_trainValue_0 rfl (lv_at hl 1 rfl) ?_
  refine x_sw (v := 6) (off := 118) (tgt := 119) hx hb dX2_trainValue_1 rfl (by decide) (by decide) (by decide) (by decide) ?_
  refine lv_aload_n hx hb dX2_trainValue_119 rfl (lv_at hl 0 rfl) ?_
  refine x_go (ws' := [(h 0, .inr (2, [.ref (h 1), .ref (h 2), .ref (h 7), .ref (h 8)])), (h 2, .inr (5, [.int (nI L), .ref (h 3), .ref (h 4), .ref (h 5), .ref (h 6)])), (h 4, .inl (g.2.1, 200, .inl gr)), (h 6, .inl (g.2.1, 7, .inl st)), (h 7, .inr (6, [.int (nI t.1), .int t.2.1, .int t.2.2.1, .int t.2.2.2.1, .int t.2.2.2.2.1, .int t.2.2.2.2.2.1, .int t.2.2.2.2.2.2.1, .int t.2.2.2.2.2.2.2])), (h 8, .inr (0, [.ref (h 9), .ref (h 10)])), (h 10, .inl (g.2.1, 200, .inl sq))]) (st1 := [.int (nI (kpt L (t.2.2.2.1 / 1000)))]) E hw [0, 1, 4] rfl (x_runV (rest := []) E hw (c_X2_spanFirst l g h L t (by omega) (by omega)) km_X2_134 kv_X2_spanFirst [0, 1, 4] rfl (by decide) 0 rfl hl.1 rfl rfl (Nat.le_of_ble_eq_true rfl) ⟨Nat.le_of_ble_eq_true rfl, Nat.le_of_ble_eq_true rfl⟩ ⟨Nat.zero_le _, Nat.zero_le _⟩ dX2_trainValue_120) rfl rfl rfl (fun H locs hw => ?_)
  exact xr_i hQ E hr hw dX2_trainValue_123 ⟨rfl, rfl⟩

set_option maxRecDepth 100000 in
set_option maxHeartbeats 4000000 in
theorem c_X2_trainValue_7 (l : Launch) (g : xCfg) (h : Nat → Nat) (L : Nat) (gr : Nat → Int32) (st : Nat → Int32) (t : TV) (sq : Nat → Int32) (hL1 : 1 ≤ L) (hL : L ≤ 200) (hf : t.1 < 200) : Ct l g yX2_trainValue cX2_trainValue 2 (some .int) (xR 4 81) [.ref (h 0), .int 7] [(h 0, .inr (2, [.ref (h 1), .ref (h 2), .ref (h 7), .ref (h 8)])), (h 2, .inr (5, [.int (nI L), .ref (h 3), .ref (h 4), .ref (h 5), .ref (h 6)])), (h 4, .inl (g.2.1, 200, .inl gr)), (h 6, .inl (g.2.1, 7, .inl st)), (h 7, .inr (6, [.int (nI t.1), .int t.2.1, .int t.2.2.1, .int t.2.2.2.1, .int t.2.2.2.2.1, .int t.2.2.2.2.2.1, .int t.2.2.2.2.2.2.1, .int t.2.2.2.2.2.2.2])), (h 8, .inr (0, [.ref (h 9), .ref (h 10)])), (h 10, .inl (g.2.1, 200, .inl sq))] (is1 (some (.int (trvF L gr st sq t 7))) [(h 0, .inr (2, [.ref (h 1), .ref (h 2), .ref (h 7), .ref (h 8)])), (h 2, .inr (5, [.int (nI L), .ref (h 3), .ref (h 4), .ref (h 5), .ref (h 6)])), (h 4, .inl (g.2.1, 200, .inl gr)), (h 6, .inl (g.2.1, 7, .inl st)), (h 7, .inr (6, [.int (nI t.1), .int t.2.1, .int t.2.2.1, .int t.2.2.2.1, .int t.2.2.2.2.1, .int t.2.2.2.2.2.1, .int t.2.2.2.2.2.2.1, .int t.2.2.2.2.2.2.2])), (h 8, .inr (0, [.ref (h 9), .ref (h 10)])), (h 10, .inl (g.2.1, 200, .inl sq))]) := by
  refine Ct.walk (by decide) (Nat.le_of_ble_eq_true rfl) ?_
  intro p0 e0 s0 m0 below meth c0 A0 ls Q hQ E hr hnm hw hl
  have hx := E.x
  have hb := E.b
  have hl : lv_has ls 2 [(0, .ref (h 0)), (1, .int 7)] := hl
  refine lv_iload_n hx hb dX2_trainValue_0 rfl (lv_at hl 1 rfl) ?_
  refine x_sw (v := 7) (off := 123) (tgt := 124) hx hb dX2_trainValue_1 rfl (by decide) (by decide) (by decide) (by decide) ?_
  refine lv_aload_n hx hb dX2_trainValue_124 rfl (lv_at hl 0 rfl) ?_
  refine x_go (ws' := [(h 0, .inr (2, [.ref (h 1), .ref (h 2), .ref (h 7), .ref (h 8)])), (h 2, .inr (5, [.int (nI L), .ref (h 3), .ref (h 4), .ref (h 5), .ref (h 6)])), (h 4, .inl (g.2.1, 200, .inl gr)), (h 6, .inl (g.2.1, 7, .inl st)), (h 7, .inr (6, [.int (nI t.1), .int t.2.1, .int t.2.2.1, .int t.2.2.2.1, .int t.2.2.2.2.1, .int t.2.2.2.2.2.1, .int t.2.2.2.2.2.2.1, .int t.2.2.2.2.2.2.2])), (h 8, .inr (0, [.ref (h 9), .ref (h 10)])), (h 10, .inl (g.2.1, 200, .inl sq))]) (st1 := [.int (nI (kpt L ((t.2.2.2.2.1 + 999) / 1000)))]) E hw [0, 1, 4] rfl (x_runV (rest := []) E hw (c_X2_spanLast l g h L t (by omega) (by omega)) km_X2_126 kv_X2_spanLast [0, 1, 4] rfl (by decide) 0 rfl hl.1 rfl rfl (Nat.le_of_ble_eq_true rfl) ⟨Nat.le_of_ble_eq_true rfl, Nat.le_of_ble_eq_true rfl⟩ ⟨Nat.zero_le _, Nat.zero_le _⟩ dX2_trainValue_125) rfl rfl rfl (fun H locs hw => ?_)
  exact xr_i hQ E hr hw dX2_trainValue_128 ⟨rfl, rfl⟩

set_option maxRecDepth 100000 in
set_option maxHeartbeats 4000000 in
theorem c_X2_trainValue_8 (l : Launch) (g : xCfg) (h : Nat → Nat) (L : Nat) (gr : Nat → Int32) (st : Nat → Int32) (t : TV) (sq : Nat → Int32) (hL1 : 1 ≤ L) (hL : L ≤ 200) (hf : t.1 < 200) : Ct l g yX2_trainValue cX2_trainValue 2 (some .int) (xR 4 81) [.ref (h 0), .int 8] [(h 0, .inr (2, [.ref (h 1), .ref (h 2), .ref (h 7), .ref (h 8)])), (h 2, .inr (5, [.int (nI L), .ref (h 3), .ref (h 4), .ref (h 5), .ref (h 6)])), (h 4, .inl (g.2.1, 200, .inl gr)), (h 6, .inl (g.2.1, 7, .inl st)), (h 7, .inr (6, [.int (nI t.1), .int t.2.1, .int t.2.2.1, .int t.2.2.2.1, .int t.2.2.2.2.1, .int t.2.2.2.2.2.1, .int t.2.2.2.2.2.2.1, .int t.2.2.2.2.2.2.2])), (h 8, .inr (0, [.ref (h 9), .ref (h 10)])), (h 10, .inl (g.2.1, 200, .inl sq))] (is1 (some (.int (trvF L gr st sq t 8))) [(h 0, .inr (2, [.ref (h 1), .ref (h 2), .ref (h 7), .ref (h 8)])), (h 2, .inr (5, [.int (nI L), .ref (h 3), .ref (h 4), .ref (h 5), .ref (h 6)])), (h 4, .inl (g.2.1, 200, .inl gr)), (h 6, .inl (g.2.1, 7, .inl st)), (h 7, .inr (6, [.int (nI t.1), .int t.2.1, .int t.2.2.1, .int t.2.2.2.1, .int t.2.2.2.2.1, .int t.2.2.2.2.2.1, .int t.2.2.2.2.2.2.1, .int t.2.2.2.2.2.2.2])), (h 8, .inr (0, [.ref (h 9), .ref (h 10)])), (h 10, .inl (g.2.1, 200, .inl sq))]) := by
  refine Ct.walk (by decide) (Nat.le_of_ble_eq_true rfl) ?_
  intro p0 e0 s0 m0 below meth c0 A0 ls Q hQ E hr hnm hw hl
  have hx := E.x
  have hb := E.b
  have hl : lv_has ls 2 [(0, .ref (h 0)), (1, .int 8)] := hl
  refine lv_iload_n hx hb dX2_trainValue_0 rfl (lv_at hl 1 rfl) ?_
  refine x_sw (v := 8) (off := 128) (tgt := 129) hx hb dX2_trainValue_1 rfl (by decide) (by decide) (by decide) (by decide) ?_
  refine lv_aload_n hx hb dX2_trainValue_129 rfl (lv_at hl 0 rfl) ?_
  refine x_go (ws' := [(h 0, .inr (2, [.ref (h 1), .ref (h 2), .ref (h 7), .ref (h 8)])), (h 2, .inr (5, [.int (nI L), .ref (h 3), .ref (h 4), .ref (h 5), .ref (h 6)])), (h 4, .inl (g.2.1, 200, .inl gr)), (h 6, .inl (g.2.1, 7, .inl st)), (h 7, .inr (6, [.int (nI t.1), .int t.2.1, .int t.2.2.1, .int t.2.2.2.1, .int t.2.2.2.2.1, .int t.2.2.2.2.2.1, .int t.2.2.2.2.2.2.1, .int t.2.2.2.2.2.2.2])), (h 8, .inr (0, [.ref (h 9), .ref (h 10)])), (h 10, .inl (g.2.1, 200, .inl sq))]) (st1 := [.int (nI (seenN L t.2.2.2.1 t.2.2.2.2.1 sq))]) E hw [0, 1, 4, 5, 6] rfl (x_runV (rest := []) E hw (c_X2_seen l g h L t sq (by omega) (by omega)) km_X2_120 kv_X2_seen [0, 1, 4, 5, 6] rfl (by decide) 0 rfl hl.1 rfl rfl (Nat.le_of_ble_eq_true rfl) ⟨Nat.le_of_ble_eq_true rfl, Nat.le_of_ble_eq_true rfl⟩ ⟨Nat.zero_le _, Nat.zero_le _⟩ dX2_trainValue_130) rfl rfl rfl (fun H locs hw => ?_)
  exact xr_i hQ E hr hw dX2_trainValue_133 ⟨rfl, rfl⟩

set_option maxRecDepth 100000 in
set_option maxHeartbeats 4000000 in
theorem c_X2_trainValue_9 (l : Launch) (g : xCfg) (h : Nat → Nat) (L : Nat) (gr : Nat → Int32) (st : Nat → Int32) (t : TV) (sq : Nat → Int32) (hL1 : 1 ≤ L) (hL : L ≤ 200) (hf : t.1 < 200) : Ct l g yX2_trainValue cX2_trainValue 2 (some .int) (xR 4 81) [.ref (h 0), .int 9] [(h 0, .inr (2, [.ref (h 1), .ref (h 2), .ref (h 7), .ref (h 8)])), (h 2, .inr (5, [.int (nI L), .ref (h 3), .ref (h 4), .ref (h 5), .ref (h 6)])), (h 4, .inl (g.2.1, 200, .inl gr)), (h 6, .inl (g.2.1, 7, .inl st)), (h 7, .inr (6, [.int (nI t.1), .int t.2.1, .int t.2.2.1, .int t.2.2.2.1, .int t.2.2.2.2.1, .int t.2.2.2.2.2.1, .int t.2.2.2.2.2.2.1, .int t.2.2.2.2.2.2.2])), (h 8, .inr (0, [.ref (h 9), .ref (h 10)])), (h 10, .inl (g.2.1, 200, .inl sq))] (is1 (some (.int (trvF L gr st sq t 9))) [(h 0, .inr (2, [.ref (h 1), .ref (h 2), .ref (h 7), .ref (h 8)])), (h 2, .inr (5, [.int (nI L), .ref (h 3), .ref (h 4), .ref (h 5), .ref (h 6)])), (h 4, .inl (g.2.1, 200, .inl gr)), (h 6, .inl (g.2.1, 7, .inl st)), (h 7, .inr (6, [.int (nI t.1), .int t.2.1, .int t.2.2.1, .int t.2.2.2.1, .int t.2.2.2.2.1, .int t.2.2.2.2.2.1, .int t.2.2.2.2.2.2.1, .int t.2.2.2.2.2.2.2])), (h 8, .inr (0, [.ref (h 9), .ref (h 10)])), (h 10, .inl (g.2.1, 200, .inl sq))]) := by
  refine Ct.walk (by decide) (Nat.le_of_ble_eq_true rfl) ?_
  intro p0 e0 s0 m0 below meth c0 A0 ls Q hQ E hr hnm hw hl
  have hx := E.x
  have hb := E.b
  have hl : lv_has ls 2 [(0, .ref (h 0)), (1, .int 9)] := hl
  refine lv_iload_n hx hb dX2_trainValue_0 rfl (lv_at hl 1 rfl) ?_
  refine x_sw (v := 9) (off := 133) (tgt := 134) hx hb dX2_trainValue_1 rfl (by decide) (by decide) (by decide) (by decide) ?_
  refine lv_aload_n hx hb dX2_trainValue_134 rfl (lv_at hl 0 rfl) ?_
  refine x_get E hw kf_X2_27 0 rfl rfl dX2_trainValue_135 ?_
  refine x_getN E hw kf_X2_123 4 rfl rfl dX2_trainValue_138 ?_
  exact xr_i hQ E hr hw dX2_trainValue_141 ⟨rfl, rfl⟩

set_option maxRecDepth 100000 in
set_option maxHeartbeats 4000000 in
theorem c_X2_trainValue_10 (l : Launch) (g : xCfg) (h : Nat → Nat) (L : Nat) (gr : Nat → Int32) (st : Nat → Int32) (t : TV) (sq : Nat → Int32) (hL1 : 1 ≤ L) (hL : L ≤ 200) (hf : t.1 < 200) : Ct l g yX2_trainValue cX2_trainValue 2 (some .int) (xR 4 81) [.ref (h 0), .int 10] [(h 0, .inr (2, [.ref (h 1), .ref (h 2), .ref (h 7), .ref (h 8)])), (h 2, .inr (5, [.int (nI L), .ref (h 3), .ref (h 4), .ref (h 5), .ref (h 6)])), (h 4, .inl (g.2.1, 200, .inl gr)), (h 6, .inl (g.2.1, 7, .inl st)), (h 7, .inr (6, [.int (nI t.1), .int t.2.1, .int t.2.2.1, .int t.2.2.2.1, .int t.2.2.2.2.1, .int t.2.2.2.2.2.1, .int t.2.2.2.2.2.2.1, .int t.2.2.2.2.2.2.2])), (h 8, .inr (0, [.ref (h 9), .ref (h 10)])), (h 10, .inl (g.2.1, 200, .inl sq))] (is1 (some (.int (trvF L gr st sq t 10))) [(h 0, .inr (2, [.ref (h 1), .ref (h 2), .ref (h 7), .ref (h 8)])), (h 2, .inr (5, [.int (nI L), .ref (h 3), .ref (h 4), .ref (h 5), .ref (h 6)])), (h 4, .inl (g.2.1, 200, .inl gr)), (h 6, .inl (g.2.1, 7, .inl st)), (h 7, .inr (6, [.int (nI t.1), .int t.2.1, .int t.2.2.1, .int t.2.2.2.1, .int t.2.2.2.2.1, .int t.2.2.2.2.2.1, .int t.2.2.2.2.2.2.1, .int t.2.2.2.2.2.2.2])), (h 8, .inr (0, [.ref (h 9), .ref (h 10)])), (h 10, .inl (g.2.1, 200, .inl sq))]) := by
  refine Ct.walk (by decide) (Nat.le_of_ble_eq_true rfl) ?_
  intro p0 e0 s0 m0 below meth c0 A0 ls Q hQ E hr hnm hw hl
  have hx := E.x
  have hb := E.b
  have hl : lv_has ls 2 [(0, .ref (h 0)), (1, .int 10)] := hl
  refine lv_iload_n hx hb dX2_trainValue_0 rfl (lv_at hl 1 rfl) ?_
  refine x_sw (v := 10) (off := 141) (tgt := 142) hx hb dX2_trainValue_1 rfl (by decide) (by decide) (by decide) (by decide) ?_
  refine lv_aload_n hx hb dX2_trainValue_142 rfl (lv_at hl 0 rfl) ?_
  refine x_get E hw kf_X2_27 0 rfl rfl dX2_trainValue_143 ?_
  refine x_getN E hw kf_X2_114 4 rfl rfl dX2_trainValue_146 ?_
  exact xr_i hQ E hr hw dX2_trainValue_149 ⟨rfl, rfl⟩

set_option maxRecDepth 100000 in
set_option maxHeartbeats 4000000 in
theorem c_X2_trainValue_11 (l : Launch) (g : xCfg) (h : Nat → Nat) (L : Nat) (gr : Nat → Int32) (st : Nat → Int32) (t : TV) (sq : Nat → Int32) (hL1 : 1 ≤ L) (hL : L ≤ 200) (hf : t.1 < 200) : Ct l g yX2_trainValue cX2_trainValue 2 (some .int) (xR 4 81) [.ref (h 0), .int 11] [(h 0, .inr (2, [.ref (h 1), .ref (h 2), .ref (h 7), .ref (h 8)])), (h 2, .inr (5, [.int (nI L), .ref (h 3), .ref (h 4), .ref (h 5), .ref (h 6)])), (h 4, .inl (g.2.1, 200, .inl gr)), (h 6, .inl (g.2.1, 7, .inl st)), (h 7, .inr (6, [.int (nI t.1), .int t.2.1, .int t.2.2.1, .int t.2.2.2.1, .int t.2.2.2.2.1, .int t.2.2.2.2.2.1, .int t.2.2.2.2.2.2.1, .int t.2.2.2.2.2.2.2])), (h 8, .inr (0, [.ref (h 9), .ref (h 10)])), (h 10, .inl (g.2.1, 200, .inl sq))] (is1 (some (.int (trvF L gr st sq t 11))) [(h 0, .inr (2, [.ref (h 1), .ref (h 2), .ref (h 7), .ref (h 8)])), (h 2, .inr (5, [.int (nI L), .ref (h 3), .ref (h 4), .ref (h 5), .ref (h 6)])), (h 4, .inl (g.2.1, 200, .inl gr)), (h 6, .inl (g.2.1, 7, .inl st)), (h 7, .inr (6, [.int (nI t.1), .int t.2.1, .int t.2.2.1, .int t.2.2.2.1, .int t.2.2.2.2.1, .int t.2.2.2.2.2.1, .int t.2.2.2.2.2.2.1, .int t.2.2.2.2.2.2.2])), (h 8, .inr (0, [.ref (h 9), .ref (h 10)])), (h 10, .inl (g.2.1, 200, .inl sq))]) := by
  refine Ct.walk (by decide) (Nat.le_of_ble_eq_true rfl) ?_
  intro p0 e0 s0 m0 below meth c0 A0 ls Q hQ E hr hnm hw hl
  have hx := E.x
  have hb := E.b
  have hl : lv_has ls 2 [(0, .ref (h 0)), (1, .int 11)] := hl
  refine lv_iload_n hx hb dX2_trainValue_0 rfl (lv_at hl 1 rfl) ?_
  refine x_sw (v := 11) (off := 149) (tgt := 150) hx hb dX2_trainValue_1 rfl (by decide) (by decide) (by decide) (by decide) ?_
  refine lv_aload_n hx hb dX2_trainValue_150 rfl (lv_at hl 0 rfl) ?_
  refine x_go (ws' := [(h 0, .inr (2, [.ref (h 1), .ref (h 2), .ref (h 7), .ref (h 8)])), (h 2, .inr (5, [.int (nI L), .ref (h 3), .ref (h 4), .ref (h 5), .ref (h 6)])), (h 4, .inl (g.2.1, 200, .inl gr)), (h 6, .inl (g.2.1, 7, .inl st)), (h 7, .inr (6, [.int (nI t.1), .int t.2.1, .int t.2.2.1, .int t.2.2.2.1, .int t.2.2.2.2.1, .int t.2.2.2.2.2.1, .int t.2.2.2.2.2.2.1, .int t.2.2.2.2.2.2.2])), (h 8, .inr (0, [.ref (h 9), .ref (h 10)])), (h 10, .inl (g.2.1, 200, .inl sq))]) (st1 := [.int (drvH L gr st sq t)]) E hw [0, 1, 2, 3, 4, 5, 6] rfl (x_runV (rest := []) E hw (c_X2_driverHandle l g h L gr st t sq (by omega) (by omega) (by omega)) km_X2_97 kv_X2_driverHandle [0, 1, 2, 3, 4, 5, 6] rfl (by decide) 0 rfl hl.1 rfl rfl (Nat.le_of_ble_eq_true rfl) ⟨Nat.le_of_ble_eq_true rfl, Nat.le_of_ble_eq_true rfl⟩ ⟨Nat.zero_le _, Nat.zero_le _⟩ dX2_trainValue_151) rfl rfl rfl (fun H locs hw => ?_)
  refine lv_iconst (v := 1) hx hb dX2_trainValue_154 (by decide) ?_
  refine lv_iadd hx hb dX2_trainValue_155 ?_
  exact xr_i hQ E hr hw dX2_trainValue_156 ⟨rfl, rfl⟩

set_option maxRecDepth 100000 in
set_option maxHeartbeats 4000000 in
theorem c_X2_trainValue_12 (l : Launch) (g : xCfg) (h : Nat → Nat) (L : Nat) (gr : Nat → Int32) (st : Nat → Int32) (t : TV) (sq : Nat → Int32) (hL1 : 1 ≤ L) (hL : L ≤ 200) (hf : t.1 < 200) : Ct l g yX2_trainValue cX2_trainValue 2 (some .int) (xR 4 81) [.ref (h 0), .int 12] [(h 0, .inr (2, [.ref (h 1), .ref (h 2), .ref (h 7), .ref (h 8)])), (h 2, .inr (5, [.int (nI L), .ref (h 3), .ref (h 4), .ref (h 5), .ref (h 6)])), (h 4, .inl (g.2.1, 200, .inl gr)), (h 6, .inl (g.2.1, 7, .inl st)), (h 7, .inr (6, [.int (nI t.1), .int t.2.1, .int t.2.2.1, .int t.2.2.2.1, .int t.2.2.2.2.1, .int t.2.2.2.2.2.1, .int t.2.2.2.2.2.2.1, .int t.2.2.2.2.2.2.2])), (h 8, .inr (0, [.ref (h 9), .ref (h 10)])), (h 10, .inl (g.2.1, 200, .inl sq))] (is1 (some (.int (trvF L gr st sq t 12))) [(h 0, .inr (2, [.ref (h 1), .ref (h 2), .ref (h 7), .ref (h 8)])), (h 2, .inr (5, [.int (nI L), .ref (h 3), .ref (h 4), .ref (h 5), .ref (h 6)])), (h 4, .inl (g.2.1, 200, .inl gr)), (h 6, .inl (g.2.1, 7, .inl st)), (h 7, .inr (6, [.int (nI t.1), .int t.2.1, .int t.2.2.1, .int t.2.2.2.1, .int t.2.2.2.2.1, .int t.2.2.2.2.2.1, .int t.2.2.2.2.2.2.1, .int t.2.2.2.2.2.2.2])), (h 8, .inr (0, [.ref (h 9), .ref (h 10)])), (h 10, .inl (g.2.1, 200, .inl sq))]) := by
  refine Ct.walk (by decide) (Nat.le_of_ble_eq_true rfl) ?_
  intro p0 e0 s0 m0 below meth c0 A0 ls Q hQ E hr hnm hw hl
  have hx := E.x
  have hb := E.b
  have hl : lv_has ls 2 [(0, .ref (h 0)), (1, .int 12)] := hl
  refine lv_iload_n hx hb dX2_trainValue_0 rfl (lv_at hl 1 rfl) ?_
  refine x_sw (v := 12) (off := 156) (tgt := 157) hx hb dX2_trainValue_1 rfl (by decide) (by decide) (by decide) (by decide) ?_
  refine lv_aload_n hx hb dX2_trainValue_157 rfl (lv_at hl 0 rfl) ?_
  refine x_get E hw kf_X2_27 0 rfl rfl dX2_trainValue_158 ?_
  refine x_getN E hw kf_X2_152 4 rfl rfl dX2_trainValue_161 ?_
  exact xr_i hQ E hr hw dX2_trainValue_164 ⟨rfl, rfl⟩

theorem c_X2_trainValue (l : Launch) (g : xCfg) (h : Nat → Nat) (L : Nat) (gr : Nat → Int32) (st : Nat → Int32) (t : TV) (sq : Nat → Int32) (w : Nat) (hL1 : 1 ≤ L) (hL : L ≤ 200) (hf : t.1 < 200) (hw0 : w < 13) : Ct l g yX2_trainValue cX2_trainValue 2 (some .int) (xR 4 81) [.ref (h 0), .int (nI w)] [(h 0, .inr (2, [.ref (h 1), .ref (h 2), .ref (h 7), .ref (h 8)])), (h 2, .inr (5, [.int (nI L), .ref (h 3), .ref (h 4), .ref (h 5), .ref (h 6)])), (h 4, .inl (g.2.1, 200, .inl gr)), (h 6, .inl (g.2.1, 7, .inl st)), (h 7, .inr (6, [.int (nI t.1), .int t.2.1, .int t.2.2.1, .int t.2.2.2.1, .int t.2.2.2.2.1, .int t.2.2.2.2.2.1, .int t.2.2.2.2.2.2.1, .int t.2.2.2.2.2.2.2])), (h 8, .inr (0, [.ref (h 9), .ref (h 10)])), (h 10, .inl (g.2.1, 200, .inl sq))] (is1 (some (.int (trvF L gr st sq t w))) [(h 0, .inr (2, [.ref (h 1), .ref (h 2), .ref (h 7), .ref (h 8)])), (h 2, .inr (5, [.int (nI L), .ref (h 3), .ref (h 4), .ref (h 5), .ref (h 6)])), (h 4, .inl (g.2.1, 200, .inl gr)), (h 6, .inl (g.2.1, 7, .inl st)), (h 7, .inr (6, [.int (nI t.1), .int t.2.1, .int t.2.2.1, .int t.2.2.2.1, .int t.2.2.2.2.1, .int t.2.2.2.2.2.1, .int t.2.2.2.2.2.2.1, .int t.2.2.2.2.2.2.2])), (h 8, .inr (0, [.ref (h 9), .ref (h 10)])), (h 10, .inl (g.2.1, 200, .inl sq))]) := by
  match w, hw0 with
  | 0, _ => exact c_X2_trainValue_0 l g h L gr st t sq hL1 hL hf
  | 1, _ => exact c_X2_trainValue_1 l g h L gr st t sq hL1 hL hf
  | 2, _ => exact c_X2_trainValue_2 l g h L gr st t sq hL1 hL hf
  | 3, _ => exact c_X2_trainValue_3 l g h L gr st t sq hL1 hL hf
  | 4, _ => exact c_X2_trainValue_4 l g h L gr st t sq hL1 hL hf
  | 5, _ => exact c_X2_trainValue_5 l g h L gr st t sq hL1 hL hf
  | 6, _ => exact c_X2_trainValue_6 l g h L gr st t sq hL1 hL hf
  | 7, _ => exact c_X2_trainValue_7 l g h L gr st t sq hL1 hL hf
  | 8, _ => exact c_X2_trainValue_8 l g h L gr st t sq hL1 hL hf
  | 9, _ => exact c_X2_trainValue_9 l g h L gr st t sq hL1 hL hf
  | 10, _ => exact c_X2_trainValue_10 l g h L gr st t sq hL1 hL hf
  | 11, _ => exact c_X2_trainValue_11 l g h L gr st t sq hL1 hL hf
  | 12, _ => exact c_X2_trainValue_12 l g h L gr st t sq hL1 hL hf
  | w + 13, h => exact absurd h (by omega)

set_option maxRecDepth 100000 in
set_option maxHeartbeats 4000000 in
theorem c_X2_trainValue_bad (l : Launch) (g : xCfg) (h : Nat → Nat) (L : Nat) (gr : Nat → Int32) (st : Nat → Int32) (t : TV) (sq : Nat → Int32) (x : Int32) (hb0 : ∀ k, k < 13 → x ≠ nI k) : Ct l g yX2_trainValue cX2_trainValue 2 (some .int) (xR 0 0) [.ref (h 0), .int x] [(h 0, .inr (2, [.ref (h 1), .ref (h 2), .ref (h 7), .ref (h 8)])), (h 2, .inr (5, [.int (nI L), .ref (h 3), .ref (h 4), .ref (h 5), .ref (h 6)])), (h 4, .inl (g.2.1, 200, .inl gr)), (h 6, .inl (g.2.1, 7, .inl st)), (h 7, .inr (6, [.int (nI t.1), .int t.2.1, .int t.2.2.1, .int t.2.2.2.1, .int t.2.2.2.2.1, .int t.2.2.2.2.2.1, .int t.2.2.2.2.2.2.1, .int t.2.2.2.2.2.2.2])), (h 8, .inr (0, [.ref (h 9), .ref (h 10)])), (h 10, .inl (g.2.1, 200, .inl sq))] (is1 (some (.int (-2))) [(h 0, .inr (2, [.ref (h 1), .ref (h 2), .ref (h 7), .ref (h 8)])), (h 2, .inr (5, [.int (nI L), .ref (h 3), .ref (h 4), .ref (h 5), .ref (h 6)])), (h 4, .inl (g.2.1, 200, .inl gr)), (h 6, .inl (g.2.1, 7, .inl st)), (h 7, .inr (6, [.int (nI t.1), .int t.2.1, .int t.2.2.1, .int t.2.2.2.1, .int t.2.2.2.2.1, .int t.2.2.2.2.2.1, .int t.2.2.2.2.2.2.1, .int t.2.2.2.2.2.2.2])), (h 8, .inr (0, [.ref (h 9), .ref (h 10)])), (h 10, .inl (g.2.1, 200, .inl sq))]) := by
  refine Ct.walk (by decide) (Nat.le_of_ble_eq_true rfl) ?_
  intro p0 e0 s0 m0 below meth c0 A0 ls Q hQ E hr hnm hw hl
  have hx := E.x
  have hb := E.b
  have hl : lv_has ls 2 [(0, .ref (h 0)), (1, .int x)] := hl
  refine lv_iload_n hx hb dX2_trainValue_0 rfl (lv_at hl 1 rfl) ?_
  refine lv_tableOut (tgt := 165) hx hb dX2_trainValue_1 (x_out 13 (by decide) (by decide) hb0) (by decide) ?_
  refine lv_bipush (v := -2) hx hb dX2_trainValue_165 (by decide) ?_
  exact xr_i hQ E hr hw dX2_trainValue_167 ⟨rfl, rfl⟩

set_option maxRecDepth 100000 in
set_option maxHeartbeats 4000000 in
theorem c_X2_cellValue_0 (l : Launch) (g : xCfg) (h : Nat → Nat) (L : Nat) (ce : Nat → Int32) (gr : Nat → Int32) (be : Nat → Int32) (st : Nat → Int32) (fo : Nat → Int32) (x : Nat) (hL : L ≤ 200) (hx0 : x < L) : Ct l g yX2_cellValue cX2_cellValue 3 (some .int) (xR 2 43) [.ref (h 0), .int (nI x), .int 0] [(h 0, .inr (2, [.ref (h 1), .ref (h 2), .ref (h 7), .ref (h 8)])), (h 2, .inr (5, [.int (nI L), .ref (h 3), .ref (h 4), .ref (h 5), .ref (h 6)])), (h 3, .inl (g.2.1, 200, .inl ce)), (h 4, .inl (g.2.1, 200, .inl gr)), (h 5, .inl (g.2.1, 200, .inl be)), (h 6, .inl (g.2.1, 7, .inl st)), (h 8, .inr (0, [.ref (h 9), .ref (h 10)])), (h 9, .inl (g.2.1, 200, .inl fo))] (is1 (some (.int (cevF ce gr be fo (st 0) x 0))) [(h 0, .inr (2, [.ref (h 1), .ref (h 2), .ref (h 7), .ref (h 8)])), (h 2, .inr (5, [.int (nI L), .ref (h 3), .ref (h 4), .ref (h 5), .ref (h 6)])), (h 3, .inl (g.2.1, 200, .inl ce)), (h 4, .inl (g.2.1, 200, .inl gr)), (h 5, .inl (g.2.1, 200, .inl be)), (h 6, .inl (g.2.1, 7, .inl st)), (h 8, .inr (0, [.ref (h 9), .ref (h 10)])), (h 9, .inl (g.2.1, 200, .inl fo))]) := by
  refine Ct.walk (by decide) (Nat.le_of_ble_eq_true rfl) ?_
  intro p0 e0 s0 m0 below meth c0 A0 ls Q hQ E hr hnm hw hl
  have hx := E.x
  have hb := E.b
  have hl : lv_has ls 3 [(0, .ref (h 0)), (1, .int (nI x)), (2, .int 0)] := hl
  refine lv_aload_n hx hb dX2_cellValue_0 rfl (lv_at hl 0 rfl) ?_
  refine x_get E hw kf_X2_22 0 rfl rfl dX2_cellValue_1 ?_
  refine lv_iload_n hx hb dX2_cellValue_4 rfl (lv_at hl 1 rfl) ?_
  refine x_go (ws' := [(h 0, .inr (2, [.ref (h 1), .ref (h 2), .ref (h 7), .ref (h 8)])), (h 2, .inr (5, [.int (nI L), .ref (h 3), .ref (h 4), .ref (h 5), .ref (h 6)])), (h 3, .inl (g.2.1, 200, .inl ce)), (h 4, .inl (g.2.1, 200, .inl gr)), (h 5, .inl (g.2.1, 200, .inl be)), (h 6, .inl (g.2.1, 7, .inl st)), (h 8, .inr (0, [.ref (h 9), .ref (h 10)])), (h 9, .inl (g.2.1, 200, .inl fo))]) (st1 := [.int 1]) E hw [1] rfl (x_runVN (rest := []) E hw (c_X5_has_ok l g h L x (by omega) (by omega)) km_X2_54 kv_X5_has [1] rfl (by decide) 1 rfl hl.1 rfl rfl (Nat.le_of_ble_eq_true rfl) ⟨Nat.le_of_ble_eq_true rfl, Nat.le_of_ble_eq_true rfl⟩ ⟨Nat.zero_le _, Nat.zero_le _⟩ dX2_cellValue_5) rfl rfl rfl (fun H locs hw => ?_)
  refine lv_if_ne (tgt := 14) hx hb dX2_cellValue_8 (by decide) (fun _ => ?_) (fun h => absurd h (by decide))
  refine lv_iload_n hx hb dX2_cellValue_14 rfl (lv_at hl 2 rfl) ?_
  refine x_sw (v := 0) (off := 33) (tgt := 48) hx hb dX2_cellValue_15 rfl (by decide) (by decide) (by decide) (by decide) ?_
  refine lv_aload_n hx hb dX2_cellValue_48 rfl (lv_at hl 0 rfl) ?_
  refine x_get E hw kf_X2_22 0 rfl rfl dX2_cellValue_49 ?_
  refine x_getN E hw kf_X2_58 1 rfl rfl dX2_cellValue_52 ?_
  refine lv_iload_n hx hb dX2_cellValue_55 rfl (lv_at hl 1 rfl) ?_
  refine x_ld (v := ce x) E hw 2 rfl x rfl (by omega) (by decide) rfl dX2_cellValue_56 ?_
  exact xr_i hQ E hr hw dX2_cellValue_57 ⟨rfl, rfl⟩

set_option maxRecDepth 100000 in
set_option maxHeartbeats 4000000 in
theorem c_X2_cellValue_1 (l : Launch) (g : xCfg) (h : Nat → Nat) (L : Nat) (ce : Nat → Int32) (gr : Nat → Int32) (be : Nat → Int32) (st : Nat → Int32) (fo : Nat → Int32) (x : Nat) (hL : L ≤ 200) (hx0 : x < L) : Ct l g yX2_cellValue cX2_cellValue 3 (some .int) (xR 2 43) [.ref (h 0), .int (nI x), .int 1] [(h 0, .inr (2, [.ref (h 1), .ref (h 2), .ref (h 7), .ref (h 8)])), (h 2, .inr (5, [.int (nI L), .ref (h 3), .ref (h 4), .ref (h 5), .ref (h 6)])), (h 3, .inl (g.2.1, 200, .inl ce)), (h 4, .inl (g.2.1, 200, .inl gr)), (h 5, .inl (g.2.1, 200, .inl be)), (h 6, .inl (g.2.1, 7, .inl st)), (h 8, .inr (0, [.ref (h 9), .ref (h 10)])), (h 9, .inl (g.2.1, 200, .inl fo))] (is1 (some (.int (cevF ce gr be fo (st 0) x 1))) [(h 0, .inr (2, [.ref (h 1), .ref (h 2), .ref (h 7), .ref (h 8)])), (h 2, .inr (5, [.int (nI L), .ref (h 3), .ref (h 4), .ref (h 5), .ref (h 6)])), (h 3, .inl (g.2.1, 200, .inl ce)), (h 4, .inl (g.2.1, 200, .inl gr)), (h 5, .inl (g.2.1, 200, .inl be)), (h 6, .inl (g.2.1, 7, .inl st)), (h 8, .inr (0, [.ref (h 9), .ref (h 10)])), (h 9, .inl (g.2.1, 200, .inl fo))]) := by
  refine Ct.walk (by decide) (Nat.le_of_ble_eq_true rfl) ?_
  intro p0 e0 s0 m0 below meth c0 A0 ls Q hQ E hr hnm hw hl
  have hx := E.x
  have hb := E.b
  have hl : lv_has ls 3 [(0, .ref (h 0)), (1, .int (nI x)), (2, .int 1)] := hl
  refine lv_aload_n hx hb dX2_cellValue_0 rfl (lv_at hl 0 rfl) ?_
  refine x_get E hw kf_X2_22 0 rfl rfl dX2_cellValue_1 ?_
  refine lv_iload_n hx hb dX2_cellValue_4 rfl (lv_at hl 1 rfl) ?_
  refine x_go (ws' := [(h 0, .inr (2, [.ref (h 1), .ref (h 2), .ref (h 7), .ref (h 8)])), (h 2, .inr (5, [.int (nI L), .ref (h 3), .ref (h 4), .ref (h 5), .ref (h 6)])), (h 3, .inl (g.2.1, 200, .inl ce)), (h 4, .inl (g.2.1, 200, .inl gr)), (h 5, .inl (g.2.1, 200, .inl be)), (h 6, .inl (g.2.1, 7, .inl st)), (h 8, .inr (0, [.ref (h 9), .ref (h 10)])), (h 9, .inl (g.2.1, 200, .inl fo))]) (st1 := [.int 1]) E hw [1] rfl (x_runVN (rest := []) E hw (c_X5_has_ok l g h L x (by omega) (by omega)) km_X2_54 kv_X5_has [1] rfl (by decide) 1 rfl hl.1 rfl rfl (Nat.le_of_ble_eq_true rfl) ⟨Nat.le_of_ble_eq_true rfl, Nat.le_of_ble_eq_true rfl⟩ ⟨Nat.zero_le _, Nat.zero_le _⟩ dX2_cellValue_5) rfl rfl rfl (fun H locs hw => ?_)
  refine lv_if_ne (tgt := 14) hx hb dX2_cellValue_8 (by decide) (fun _ => ?_) (fun h => absurd h (by decide))
  refine lv_iload_n hx hb dX2_cellValue_14 rfl (lv_at hl 2 rfl) ?_
  refine x_sw (v := 1) (off := 43) (tgt := 58) hx hb dX2_cellValue_15 rfl (by decide) (by decide) (by decide) (by decide) ?_
  refine lv_aload_n hx hb dX2_cellValue_58 rfl (lv_at hl 0 rfl) ?_
  refine x_get E hw kf_X2_22 0 rfl rfl dX2_cellValue_59 ?_
  refine x_getN E hw kf_X2_62 1 rfl rfl dX2_cellValue_62 ?_
  refine lv_iload_n hx hb dX2_cellValue_65 rfl (lv_at hl 1 rfl) ?_
  refine x_ld (v := gr x) E hw 3 rfl x rfl (by omega) (by decide) rfl dX2_cellValue_66 ?_
  refine lv_bipush (v := 20) hx hb dX2_cellValue_67 (by decide) ?_
  refine lv_iadd hx hb dX2_cellValue_69 ?_
  exact xr_i hQ E hr hw dX2_cellValue_70 ⟨rfl, rfl⟩

set_option maxRecDepth 100000 in
set_option maxHeartbeats 4000000 in
theorem c_X2_cellValue_2 (l : Launch) (g : xCfg) (h : Nat → Nat) (L : Nat) (ce : Nat → Int32) (gr : Nat → Int32) (be : Nat → Int32) (st : Nat → Int32) (fo : Nat → Int32) (x : Nat) (hL : L ≤ 200) (hx0 : x < L) : Ct l g yX2_cellValue cX2_cellValue 3 (some .int) (xR 2 43) [.ref (h 0), .int (nI x), .int 2] [(h 0, .inr (2, [.ref (h 1), .ref (h 2), .ref (h 7), .ref (h 8)])), (h 2, .inr (5, [.int (nI L), .ref (h 3), .ref (h 4), .ref (h 5), .ref (h 6)])), (h 3, .inl (g.2.1, 200, .inl ce)), (h 4, .inl (g.2.1, 200, .inl gr)), (h 5, .inl (g.2.1, 200, .inl be)), (h 6, .inl (g.2.1, 7, .inl st)), (h 8, .inr (0, [.ref (h 9), .ref (h 10)])), (h 9, .inl (g.2.1, 200, .inl fo))] (is1 (some (.int (cevF ce gr be fo (st 0) x 2))) [(h 0, .inr (2, [.ref (h 1), .ref (h 2), .ref (h 7), .ref (h 8)])), (h 2, .inr (5, [.int (nI L), .ref (h 3), .ref (h 4), .ref (h 5), .ref (h 6)])), (h 3, .inl (g.2.1, 200, .inl ce)), (h 4, .inl (g.2.1, 200, .inl gr)), (h 5, .inl (g.2.1, 200, .inl be)), (h 6, .inl (g.2.1, 7, .inl st)), (h 8, .inr (0, [.ref (h 9), .ref (h 10)])), (h 9, .inl (g.2.1, 200, .inl fo))]) := by
  refine Ct.walk (by decide) (Nat.le_of_ble_eq_true rfl) ?_
  intro p0 e0 s0 m0 below meth c0 A0 ls Q hQ E hr hnm hw hl
  have hx := E.x
  have hb := E.b
  have hl : lv_has ls 3 [(0, .ref (h 0)), (1, .int (nI x)), (2, .int 2)] := hl
  refine lv_aload_n hx hb dX2_cellValue_0 rfl (lv_at hl 0 rfl) ?_
  refine x_get E hw kf_X2_22 0 rfl rfl dX2_cellValue_1 ?_
  refine lv_iload_n hx hb dX2_cellValue_4 rfl (lv_at hl 1 rfl) ?_
  refine x_go (ws' := [(h 0, .inr (2, [.ref (h 1), .ref (h 2), .ref (h 7), .ref (h 8)])), (h 2, .inr (5, [.int (nI L), .ref (h 3), .ref (h 4), .ref (h 5), .ref (h 6)])), (h 3, .inl (g.2.1, 200, .inl ce)), (h 4, .inl (g.2.1, 200, .inl gr)), (h 5, .inl (g.2.1, 200, .inl be)), (h 6, .inl (g.2.1, 7, .inl st)), (h 8, .inr (0, [.ref (h 9), .ref (h 10)])), (h 9, .inl (g.2.1, 200, .inl fo))]) (st1 := [.int 1]) E hw [1] rfl (x_runVN (rest := []) E hw (c_X5_has_ok l g h L x (by omega) (by omega)) km_X2_54 kv_X5_has [1] rfl (by decide) 1 rfl hl.1 rfl rfl (Nat.le_of_ble_eq_true rfl) ⟨Nat.le_of_ble_eq_true rfl, Nat.le_of_ble_eq_true rfl⟩ ⟨Nat.zero_le _, Nat.zero_le _⟩ dX2_cellValue_5) rfl rfl rfl (fun H locs hw => ?_)
  refine lv_if_ne (tgt := 14) hx hb dX2_cellValue_8 (by decide) (fun _ => ?_) (fun h => absurd h (by decide))
  refine lv_iload_n hx hb dX2_cellValue_14 rfl (lv_at hl 2 rfl) ?_
  refine x_sw (v := 2) (off := 56) (tgt := 71) hx hb dX2_cellValue_15 rfl (by decide) (by decide) (by decide) (by decide) ?_
  refine lv_aload_n hx hb dX2_cellValue_71 rfl (lv_at hl 0 rfl) ?_
  refine x_get E hw kf_X2_22 0 rfl rfl dX2_cellValue_72 ?_
  refine x_getN E hw kf_X2_65 1 rfl rfl dX2_cellValue_75 ?_
  refine lv_iload_n hx hb dX2_cellValue_78 rfl (lv_at hl 1 rfl) ?_
  refine x_ld (v := be x) E hw 4 rfl x rfl (by omega) (by decide) rfl dX2_cellValue_79 ?_
  exact xr_i hQ E hr hw dX2_cellValue_80 ⟨rfl, rfl⟩

set_option maxRecDepth 100000 in
set_option maxHeartbeats 4000000 in
theorem c_X2_cellValue_3 (l : Launch) (g : xCfg) (h : Nat → Nat) (L : Nat) (ce : Nat → Int32) (gr : Nat → Int32) (be : Nat → Int32) (st : Nat → Int32) (fo : Nat → Int32) (x : Nat) (hL : L ≤ 200) (hx0 : x < L) : Ct l g yX2_cellValue cX2_cellValue 3 (some .int) (xR 2 43) [.ref (h 0), .int (nI x), .int 3] [(h 0, .inr (2, [.ref (h 1), .ref (h 2), .ref (h 7), .ref (h 8)])), (h 2, .inr (5, [.int (nI L), .ref (h 3), .ref (h 4), .ref (h 5), .ref (h 6)])), (h 3, .inl (g.2.1, 200, .inl ce)), (h 4, .inl (g.2.1, 200, .inl gr)), (h 5, .inl (g.2.1, 200, .inl be)), (h 6, .inl (g.2.1, 7, .inl st)), (h 8, .inr (0, [.ref (h 9), .ref (h 10)])), (h 9, .inl (g.2.1, 200, .inl fo))] (is1 (some (.int (cevF ce gr be fo (st 0) x 3))) [(h 0, .inr (2, [.ref (h 1), .ref (h 2), .ref (h 7), .ref (h 8)])), (h 2, .inr (5, [.int (nI L), .ref (h 3), .ref (h 4), .ref (h 5), .ref (h 6)])), (h 3, .inl (g.2.1, 200, .inl ce)), (h 4, .inl (g.2.1, 200, .inl gr)), (h 5, .inl (g.2.1, 200, .inl be)), (h 6, .inl (g.2.1, 7, .inl st)), (h 8, .inr (0, [.ref (h 9), .ref (h 10)])), (h 9, .inl (g.2.1, 200, .inl fo))]) := by
  refine Ct.walk (by decide) (Nat.le_of_ble_eq_true rfl) ?_
  intro p0 e0 s0 m0 below meth c0 A0 ls Q hQ E hr hnm hw hl
  have hx := E.x
  have hb := E.b
  have hl : lv_has ls 3 [(0, .ref (h 0)), (1, .int (nI x)), (2, .int 3)] := hl
  refine lv_aload_n hx hb dX2_cellValue_0 rfl (lv_at hl 0 rfl) ?_
  refine x_get E hw kf_X2_22 0 rfl rfl dX2_cellValue_1 ?_
  refine lv_iload_n hx hb dX2_cellValue_4 rfl (lv_at hl 1 rfl) ?_
  refine x_go (ws' := [(h 0, .inr (2, [.ref (h 1), .ref (h 2), .ref (h 7), .ref (h 8)])), (h 2, .inr (5, [.int (nI L), .ref (h 3), .ref (h 4), .ref (h 5), .ref (h 6)])), (h 3, .inl (g.2.1, 200, .inl ce)), (h 4, .inl (g.2.1, 200, .inl gr)), (h 5, .inl (g.2.1, 200, .inl be)), (h 6, .inl (g.2.1, 7, .inl st)), (h 8, .inr (0, [.ref (h 9), .ref (h 10)])), (h 9, .inl (g.2.1, 200, .inl fo))]) (st1 := [.int 1]) E hw [1] rfl (x_runVN (rest := []) E hw (c_X5_has_ok l g h L x (by omega) (by omega)) km_X2_54 kv_X5_has [1] rfl (by decide) 1 rfl hl.1 rfl rfl (Nat.le_of_ble_eq_true rfl) ⟨Nat.le_of_ble_eq_true rfl, Nat.le_of_ble_eq_true rfl⟩ ⟨Nat.zero_le _, Nat.zero_le _⟩ dX2_cellValue_5) rfl rfl rfl (fun H locs hw => ?_)
  refine lv_if_ne (tgt := 14) hx hb dX2_cellValue_8 (by decide) (fun _ => ?_) (fun h => absurd h (by decide))
  refine lv_iload_n hx hb dX2_cellValue_14 rfl (lv_at hl 2 rfl) ?_
  refine x_sw (v := 3) (off := 66) (tgt := 81) hx hb dX2_cellValue_15 rfl (by decide) (by decide) (by decide) (by decide) ?_
  refine lv_aload_n hx hb dX2_cellValue_81 rfl (lv_at hl 0 rfl) ?_
  refine x_get E hw kf_X2_22 0 rfl rfl dX2_cellValue_82 ?_
  refine lv_iload_n hx hb dX2_cellValue_85 rfl (lv_at hl 1 rfl) ?_
  refine x_go (ws' := [(h 0, .inr (2, [.ref (h 1), .ref (h 2), .ref (h 7), .ref (h 8)])), (h 2, .inr (5, [.int (nI L), .ref (h 3), .ref (h 4), .ref (h 5), .ref (h 6)])), (h 3, .inl (g.2.1, 200, .inl ce)), (h 4, .inl (g.2.1, 200, .inl gr)), (h 5, .inl (g.2.1, 200, .inl be)), (h 6, .inl (g.2.1, 7, .inl st)), (h 8, .inr (0, [.ref (h 9), .ref (h 10)])), (h 9, .inl (g.2.1, 200, .inl fo))]) (st1 := [.int (dcl (st 0) (gr x))]) E hw [1, 3, 5] rfl (x_runVN (rest := []) E hw (c_X5_decel l g h L gr st x (by omega)) km_X2_68 kv_X5_decel [1, 3, 5] rfl (by decide) 1 rfl hl.1 rfl rfl (Nat.le_of_ble_eq_true rfl) ⟨Nat.le_of_ble_eq_true rfl, Nat.le_of_ble_eq_true rfl⟩ ⟨Nat.zero_le _, Nat.zero_le _⟩ dX2_cellValue_86) rfl rfl rfl (fun H locs hw => ?_)
  exact xr_i hQ E hr hw dX2_cellValue_89 ⟨rfl, rfl⟩

set_option maxRecDepth 100000 in
set_option maxHeartbeats 4000000 in
theorem c_X2_cellValue_4 (l : Launch) (g : xCfg) (h : Nat → Nat) (L : Nat) (ce : Nat → Int32) (gr : Nat → Int32) (be : Nat → Int32) (st : Nat → Int32) (fo : Nat → Int32) (x : Nat) (hL : L ≤ 200) (hx0 : x < L) : Ct l g yX2_cellValue cX2_cellValue 3 (some .int) (xR 2 43) [.ref (h 0), .int (nI x), .int 4] [(h 0, .inr (2, [.ref (h 1), .ref (h 2), .ref (h 7), .ref (h 8)])), (h 2, .inr (5, [.int (nI L), .ref (h 3), .ref (h 4), .ref (h 5), .ref (h 6)])), (h 3, .inl (g.2.1, 200, .inl ce)), (h 4, .inl (g.2.1, 200, .inl gr)), (h 5, .inl (g.2.1, 200, .inl be)), (h 6, .inl (g.2.1, 7, .inl st)), (h 8, .inr (0, [.ref (h 9), .ref (h 10)])), (h 9, .inl (g.2.1, 200, .inl fo))] (is1 (some (.int (cevF ce gr be fo (st 0) x 4))) [(h 0, .inr (2, [.ref (h 1), .ref (h 2), .ref (h 7), .ref (h 8)])), (h 2, .inr (5, [.int (nI L), .ref (h 3), .ref (h 4), .ref (h 5), .ref (h 6)])), (h 3, .inl (g.2.1, 200, .inl ce)), (h 4, .inl (g.2.1, 200, .inl gr)), (h 5, .inl (g.2.1, 200, .inl be)), (h 6, .inl (g.2.1, 7, .inl st)), (h 8, .inr (0, [.ref (h 9), .ref (h 10)])), (h 9, .inl (g.2.1, 200, .inl fo))]) := by
  refine Ct.walk (by decide) (Nat.le_of_ble_eq_true rfl) ?_
  intro p0 e0 s0 m0 below meth c0 A0 ls Q hQ E hr hnm hw hl
  have hx := E.x
  have hb := E.b
  have hl : lv_has ls 3 [(0, .ref (h 0)), (1, .int (nI x)), (2, .int 4)] := hl
  refine lv_aload_n hx hb dX2_cellValue_0 rfl (lv_at hl 0 rfl) ?_
  refine x_get E hw kf_X2_22 0 rfl rfl dX2_cellValue_1 ?_
  refine lv_iload_n hx hb dX2_cellValue_4 rfl (lv_at hl 1 rfl) ?_
  refine x_go (ws' := [(h 0, .inr (2, [.ref (h 1), .ref (h 2), .ref (h 7), .ref (h 8)])), (h 2, .inr (5, [.int (nI L), .ref (h 3), .ref (h 4), .ref (h 5), .ref (h 6)])), (h 3, .inl (g.2.1, 200, .inl ce)), (h 4, .inl (g.2.1, 200, .inl gr)), (h 5, .inl (g.2.1, 200, .inl be)), (h 6, .inl (g.2.1, 7, .inl st)), (h 8, .inr (0, [.ref (h 9), .ref (h 10)])), (h 9, .inl (g.2.1, 200, .inl fo))]) (st1 := [.int 1]) E hw [1] rfl (x_runVN (rest := []) E hw (c_X5_has_ok l g h L x (by omega) (by omega)) km_X2_54 kv_X5_has [1] rfl (by decide) 1 rfl hl.1 rfl rfl (Nat.le_of_ble_eq_true rfl) ⟨Nat.le_of_ble_eq_true rfl, Nat.le_of_ble_eq_true rfl⟩ ⟨Nat.zero_le _, Nat.zero_le _⟩ dX2_cellValue_5) rfl rfl rfl (fun H locs hw => ?_)
  refine lv_if_ne (tgt := 14) hx hb dX2_cellValue_8 (by decide) (fun _ => ?_) (fun h => absurd h (by decide))
  refine lv_iload_n hx hb dX2_cellValue_14 rfl (lv_at hl 2 rfl) ?_
  refine x_sw (v := 4) (off := 75) (tgt := 90) hx hb dX2_cellValue_15 rfl (by decide) (by decide) (by decide) (by decide) ?_
  refine lv_aload_n hx hb dX2_cellValue_90 rfl (lv_at hl 0 rfl) ?_
  refine x_get E hw kf_X2_31 0 rfl rfl dX2_cellValue_91 ?_
  refine x_getN E hw kf_X2_71 6 rfl rfl dX2_cellValue_94 ?_
  refine lv_iload_n hx hb dX2_cellValue_97 rfl (lv_at hl 1 rfl) ?_
  refine x_ld (v := fo x) E hw 7 rfl x rfl (by omega) (by decide) rfl dX2_cellValue_98 ?_
  exact xr_i hQ E hr hw dX2_cellValue_99 ⟨rfl, rfl⟩

theorem c_X2_cellValue (l : Launch) (g : xCfg) (h : Nat → Nat) (L : Nat) (ce : Nat → Int32) (gr : Nat → Int32) (be : Nat → Int32) (st : Nat → Int32) (fo : Nat → Int32) (x : Nat) (w : Nat) (hL : L ≤ 200) (hx0 : x < L) (hw0 : w < 5) : Ct l g yX2_cellValue cX2_cellValue 3 (some .int) (xR 2 43) [.ref (h 0), .int (nI x), .int (nI w)] [(h 0, .inr (2, [.ref (h 1), .ref (h 2), .ref (h 7), .ref (h 8)])), (h 2, .inr (5, [.int (nI L), .ref (h 3), .ref (h 4), .ref (h 5), .ref (h 6)])), (h 3, .inl (g.2.1, 200, .inl ce)), (h 4, .inl (g.2.1, 200, .inl gr)), (h 5, .inl (g.2.1, 200, .inl be)), (h 6, .inl (g.2.1, 7, .inl st)), (h 8, .inr (0, [.ref (h 9), .ref (h 10)])), (h 9, .inl (g.2.1, 200, .inl fo))] (is1 (some (.int (cevF ce gr be fo (st 0) x w))) [(h 0, .inr (2, [.ref (h 1), .ref (h 2), .ref (h 7), .ref (h 8)])), (h 2, .inr (5, [.int (nI L), .ref (h 3), .ref (h 4), .ref (h 5), .ref (h 6)])), (h 3, .inl (g.2.1, 200, .inl ce)), (h 4, .inl (g.2.1, 200, .inl gr)), (h 5, .inl (g.2.1, 200, .inl be)), (h 6, .inl (g.2.1, 7, .inl st)), (h 8, .inr (0, [.ref (h 9), .ref (h 10)])), (h 9, .inl (g.2.1, 200, .inl fo))]) := by
  match w, hw0 with
  | 0, _ => exact c_X2_cellValue_0 l g h L ce gr be st fo x hL hx0
  | 1, _ => exact c_X2_cellValue_1 l g h L ce gr be st fo x hL hx0
  | 2, _ => exact c_X2_cellValue_2 l g h L ce gr be st fo x hL hx0
  | 3, _ => exact c_X2_cellValue_3 l g h L ce gr be st fo x hL hx0
  | 4, _ => exact c_X2_cellValue_4 l g h L ce gr be st fo x hL hx0
  | w + 5, h => exact absurd h (by omega)

set_option maxRecDepth 100000 in
set_option maxHeartbeats 4000000 in
theorem c_X2_cellValue_bw (l : Launch) (g : xCfg) (h : Nat → Nat) (L : Nat) (ce : Nat → Int32) (gr : Nat → Int32) (be : Nat → Int32) (st : Nat → Int32) (fo : Nat → Int32) (x : Nat) (y : Int32) (hL : L ≤ 200) (hx0 : x < L) (hb0 : ∀ k, k < 5 → y ≠ nI k) : Ct l g yX2_cellValue cX2_cellValue 3 (some .int) (xR 2 43) [.ref (h 0), .int (nI x), .int y] [(h 0, .inr (2, [.ref (h 1), .ref (h 2), .ref (h 7), .ref (h 8)])), (h 2, .inr (5, [.int (nI L), .ref (h 3), .ref (h 4), .ref (h 5), .ref (h 6)])), (h 3, .inl (g.2.1, 200, .inl ce)), (h 4, .inl (g.2.1, 200, .inl gr)), (h 5, .inl (g.2.1, 200, .inl be)), (h 6, .inl (g.2.1, 7, .inl st)), (h 8, .inr (0, [.ref (h 9), .ref (h 10)])), (h 9, .inl (g.2.1, 200, .inl fo))] (is1 (some (.int (-2))) [(h 0, .inr (2, [.ref (h 1), .ref (h 2), .ref (h 7), .ref (h 8)])), (h 2, .inr (5, [.int (nI L), .ref (h 3), .ref (h 4), .ref (h 5), .ref (h 6)])), (h 3, .inl (g.2.1, 200, .inl ce)), (h 4, .inl (g.2.1, 200, .inl gr)), (h 5, .inl (g.2.1, 200, .inl be)), (h 6, .inl (g.2.1, 7, .inl st)), (h 8, .inr (0, [.ref (h 9), .ref (h 10)])), (h 9, .inl (g.2.1, 200, .inl fo))]) := by
  refine Ct.walk (by decide) (Nat.le_of_ble_eq_true rfl) ?_
  intro p0 e0 s0 m0 below meth c0 A0 ls Q hQ E hr hnm hw hl
  have hx := E.x
  have hb := E.b
  have hl : lv_has ls 3 [(0, .ref (h 0)), (1, .int (nI x)), (2, .int y)] := hl
  refine lv_aload_n hx hb dX2_cellValue_0 rfl (lv_at hl 0 rfl) ?_
  refine x_get E hw kf_X2_22 0 rfl rfl dX2_cellValue_1 ?_
  refine lv_iload_n hx hb dX2_cellValue_4 rfl (lv_at hl 1 rfl) ?_
  refine x_go (ws' := [(h 0, .inr (2, [.ref (h 1), .ref (h 2), .ref (h 7), .ref (h 8)])), (h 2, .inr (5, [.int (nI L), .ref (h 3), .ref (h 4), .ref (h 5), .ref (h 6)])), (h 3, .inl (g.2.1, 200, .inl ce)), (h 4, .inl (g.2.1, 200, .inl gr)), (h 5, .inl (g.2.1, 200, .inl be)), (h 6, .inl (g.2.1, 7, .inl st)), (h 8, .inr (0, [.ref (h 9), .ref (h 10)])), (h 9, .inl (g.2.1, 200, .inl fo))]) (st1 := [.int 1]) E hw [1] rfl (x_runVN (rest := []) E hw (c_X5_has_ok l g h L x (by omega) (by omega)) km_X2_54 kv_X5_has [1] rfl (by decide) 1 rfl hl.1 rfl rfl (Nat.le_of_ble_eq_true rfl) ⟨Nat.le_of_ble_eq_true rfl, Nat.le_of_ble_eq_true rfl⟩ ⟨Nat.zero_le _, Nat.zero_le _⟩ dX2_cellValue_5) rfl rfl rfl (fun H locs hw => ?_)
  refine lv_if_ne (tgt := 14) hx hb dX2_cellValue_8 (by decide) (fun _ => ?_) (fun h => absurd h (by decide))
  refine lv_iload_n hx hb dX2_cellValue_14 rfl (lv_at hl 2 rfl) ?_
  refine lv_tableOut (tgt := 100) hx hb dX2_cellValue_15 (x_out 5 (by decide) (by decide) hb0) (by decide) ?_
  refine lv_bipush (v := -2) hx hb dX2_cellValue_100 (by decide) ?_
  exact xr_i hQ E hr hw dX2_cellValue_102 ⟨rfl, rfl⟩

set_option maxRecDepth 100000 in
set_option maxHeartbeats 4000000 in
theorem c_X2_cellValue_bx (l : Launch) (g : xCfg) (h : Nat → Nat) (L : Nat) (ce : Nat → Int32) (gr : Nat → Int32) (be : Nat → Int32) (st : Nat → Int32) (fo : Nat → Int32) (x : Int32) (y : Int32) (hL1 : 1 ≤ L) (hb0 : ¬ (0 ≤ x ∧ x ≤ nI (L - 1))) : Ct l g yX2_cellValue cX2_cellValue 3 (some .int) (xR 2 43) [.ref (h 0), .int x, .int y] [(h 0, .inr (2, [.ref (h 1), .ref (h 2), .ref (h 7), .ref (h 8)])), (h 2, .inr (5, [.int (nI L), .ref (h 3), .ref (h 4), .ref (h 5), .ref (h 6)])), (h 3, .inl (g.2.1, 200, .inl ce)), (h 4, .inl (g.2.1, 200, .inl gr)), (h 5, .inl (g.2.1, 200, .inl be)), (h 6, .inl (g.2.1, 7, .inl st)), (h 8, .inr (0, [.ref (h 9), .ref (h 10)])), (h 9, .inl (g.2.1, 200, .inl fo))] (is1 (some (.int (-2))) [(h 0, .inr (2, [.ref (h 1), .ref (h 2), .ref (h 7), .ref (h 8)])), (h 2, .inr (5, [.int (nI L), .ref (h 3), .ref (h 4), .ref (h 5), .ref (h 6)])), (h 3, .inl (g.2.1, 200, .inl ce)), (h 4, .inl (g.2.1, 200, .inl gr)), (h 5, .inl (g.2.1, 200, .inl be)), (h 6, .inl (g.2.1, 7, .inl st)), (h 8, .inr (0, [.ref (h 9), .ref (h 10)])), (h 9, .inl (g.2.1, 200, .inl fo))]) := by
  refine Ct.walk (by decide) (Nat.le_of_ble_eq_true rfl) ?_
  intro p0 e0 s0 m0 below meth c0 A0 ls Q hQ E hr hnm hw hl
  have hx := E.x
  have hb := E.b
  have hl : lv_has ls 3 [(0, .ref (h 0)), (1, .int x), (2, .int y)] := hl
  refine lv_aload_n hx hb dX2_cellValue_0 rfl (lv_at hl 0 rfl) ?_
  refine x_get E hw kf_X2_22 0 rfl rfl dX2_cellValue_1 ?_
  refine lv_iload_n hx hb dX2_cellValue_4 rfl (lv_at hl 1 rfl) ?_
  refine x_go (ws' := [(h 0, .inr (2, [.ref (h 1), .ref (h 2), .ref (h 7), .ref (h 8)])), (h 2, .inr (5, [.int (nI L), .ref (h 3), .ref (h 4), .ref (h 5), .ref (h 6)])), (h 3, .inl (g.2.1, 200, .inl ce)), (h 4, .inl (g.2.1, 200, .inl gr)), (h 5, .inl (g.2.1, 200, .inl be)), (h 6, .inl (g.2.1, 7, .inl st)), (h 8, .inr (0, [.ref (h 9), .ref (h 10)])), (h 9, .inl (g.2.1, 200, .inl fo))]) (st1 := [.int (bI (0 ≤ x ∧ x ≤ nI (L - 1)))]) E hw [1] rfl (x_runVN (rest := []) E hw (c_X5_has l g h L x (by omega)) km_X2_54 kv_X5_has [1] rfl (by decide) 1 rfl hl.1 rfl rfl (Nat.le_of_ble_eq_true rfl) ⟨Nat.le_of_ble_eq_true rfl, Nat.le_of_ble_eq_true rfl⟩ ⟨Nat.zero_le _, Nat.zero_le _⟩ dX2_cellValue_5) rfl rfl rfl (fun H locs hw => ?_)
  refine xb_ne (tgt := 14) hx hb dX2_cellValue_8 (by decide) (fun ca => ?_) (fun ca => ?_)
  · exact absurd ca hb0
  · refine lv_bipush (v := -2) hx hb dX2_cellValue_11 (by decide) ?_
    exact xr_i hQ E hr hw dX2_cellValue_13 ⟨rfl, rfl⟩
end
section
section XS
variable {l : Launch} {g : xCfg} {p : Program} {e : Env} {R : Room} {s : State} {m : MethodId} {args : Array Value} {below : List Frame} {meth : Method} {c : Code} {cc : ByteArray} {nL : Nat} {own : String} {A : Nat → Prop} {ws ws' : va_W} {H : Heap} {locs : List Loc} {cells slots : Nat} {Q : State → Prop} {pc : Nat} {ls : Array Slot} {rest : List Value}
theorem xE.cmp (E : xE g p s m args meth c cc nL own A) : va_Z "java/lang/String" "COMPACT_STRINGS" "Z" (.int 1) A s s.heap := E.2.2.2.2.2.2.2.2.1
theorem xE.sio (E : xE g p s m args meth c cc nL own A) : va_Zq "jdk/internal/util/Preconditions" "SIOOBE_FORMATTER" "Ljava/util/function/BiFunction;" A s s.heap := E.2.2.2.2.2.2.2.2.2.1
theorem xE.str (E : xE g p s m args meth c cc nL own A) : vk_S 9 xLen xByt g.2.2.2.2.1 g.2.2.2.2.2 A s s.heap := E.2.2.2.2.2.2.2.2.2.2
theorem xE.lit (E : xE g p s m args meth c cc nL own A) (i : Nat) (hi : i < 9) : vk_R RX3 (88 + 2 * i) (xTx.getD i "") (g.2.2.2.2.1 i) s := E.2.2.2.2.1.2.2 i hi
theorem x_runK {y : MethodName} {yc : ByteArray} {yn n : Nat} {yr : Option FieldType} {rm : Room} {index : Nat} {post : Option Value → va_W → Prop} {wc : va_W} {As st0 : List Value} {i : Nat} (E : xE g p s m args meth c cc nL own A) (hw : xW g A s ws H locs) (hM : Ct l g y yc yn yr rm (.ref (g.2.2.2.2.1 i) :: As) wc post) (k1 : xML own index y yc yn yr n) (k2 : Cond.instanceMethod y ∈ wBig) (k3 : Cond.selects "java/lang/String" y y ∈ wBig) (hi : i < 9) (isC : List Nat) (hC : isC.map (fun i => ws[i]?) = wc.map some) (hnd : va_nd isC = true)
    (hls : ls.size = nL) (hst : st0 = As.reverse ++ .ref (g.2.2.2.2.1 i) :: rest) (hn : As.length = n) (h8 : (rest.map fun v => v.category).sum ≤ 8) (hR : rm.frames + 1 ≤ R.frames ∧ 8 + (yn + 11) + rm.locals ≤ R.locals) (hf : cells + rm.cells ≤ R.cells ∧ slots + rm.slots ≤ R.slots) (hdg : decode cc pc = .ok (.invokevirtual index, 3)) :
    va_Run p l e R s m args below meth c H locs cells slots rm.cells rm.slots (F0 m pc ls st0) rest (xQ g (va_A wc H.size) post (Value.ref (g.2.2.2.2.1 i) :: As).toArray) (va_A wc H.size) :=
  va_runV (C := "java/lang/String") (n := n) E.1 (hM H.size) ⟨callB_of n E.ts (wGood k1.1) rfl rfl rfl (E.ts _ k1.2.1) (E.ts _ k1.2.2.2) k1.2.2.1 hR, E.ts _ k2, E.ts _ k3⟩ ⟨x_blind g _ _ _, vk_recv E.str hi hw.2.2, x_pre E hw isC hC hnd _⟩ rfl hn hls hst (lv_room h8) hdg hf
theorem xr_n {post : Option Value → va_W → Prop} {v : Int32} {w1 : va_W} {ty : FieldType} (hQ : Q = MQ below (xQ g A post) args s cells slots A) (E : xE g p s m args meth c cc nL own A) (hr : meth.sig.returnType = some ty) (hw : xW g A s w1 H locs) (hdg : decode cc pc = .ok (.ireturn, 1)) (hn : narrow ty (.int v) = .int v) (hp : post (some (.int v)) w1) : W p l e R s m args below meth c H locs cells slots Q (F0 m pc ls [.int v]) := by
  subst hQ
  exact W.zret (v := v) E.x E.b hr hn (hw.fin E hp) hw.2.2.2.2 hdg E.2.1
end XS
def chr (i j : Nat) : Int32 := (xByt.getD i []).getD j 0
theorem chr_ok : ∀ i, i < 9 → ∀ j, j < xLen.getD i 0 → ((chr i j &&& 255).toUInt32 % 65536).toInt32 = chr i j ∧ narrow .char (.int (chr i j)) = .int (chr i j) := by decide
theorem xLen_le : ∀ i, i < 9 → xLen.getD i 0 ≤ 6 := by decide
theorem dJ9_max_7cf53_0 : decode cJ9_max_7cf53 0 = .ok (.iload_n 0, 1) := by decide +kernel
theorem dJ9_max_7cf53_1 : decode cJ9_max_7cf53 1 = .ok (.iload_n 1, 1) := by decide +kernel
theorem dJ9_max_7cf53_2 : decode cJ9_max_7cf53 2 = .ok (.if_icmp .lt 7, 3) := by decide +kernel
theorem dJ9_max_7cf53_5 : decode cJ9_max_7cf53 5 = .ok (.iload_n 0, 1) := by decide +kernel
theorem dJ9_max_7cf53_6 : decode cJ9_max_7cf53 6 = .ok (.goto 4, 3) := by decide +kernel
theorem dJ9_max_7cf53_9 : decode cJ9_max_7cf53 9 = .ok (.iload_n 1, 1) := by decide +kernel
theorem dJ9_max_7cf53_10 : decode cJ9_max_7cf53 10 = .ok (.ireturn, 1) := by decide +kernel
theorem dJ9_min_7cf53_0 : decode cJ9_min_7cf53 0 = .ok (.iload_n 0, 1) := by decide +kernel
theorem dJ9_min_7cf53_1 : decode cJ9_min_7cf53 1 = .ok (.iload_n 1, 1) := by decide +kernel
theorem dJ9_min_7cf53_2 : decode cJ9_min_7cf53 2 = .ok (.if_icmp .gt 7, 3) := by decide +kernel
theorem dJ9_min_7cf53_5 : decode cJ9_min_7cf53 5 = .ok (.iload_n 0, 1) := by decide +kernel
theorem dJ9_min_7cf53_6 : decode cJ9_min_7cf53 6 = .ok (.goto 4, 3) := by decide +kernel
theorem dJ9_min_7cf53_9 : decode cJ9_min_7cf53 9 = .ok (.iload_n 1, 1) := by decide +kernel
theorem dJ9_min_7cf53_10 : decode cJ9_min_7cf53 10 = .ok (.ireturn, 1) := by decide +kernel
theorem dJ0_length_8abf5_0 : decode cJ0_length_8abf5 0 = .ok (.aload_n 0, 1) := by decide +kernel
theorem dJ0_length_8abf5_1 : decode cJ0_length_8abf5 1 = .ok (.getfield 9, 3) := by decide +kernel
theorem dJ0_length_8abf5_4 : decode cJ0_length_8abf5 4 = .ok (.arraylength, 1) := by decide +kernel
theorem dJ0_length_8abf5_5 : decode cJ0_length_8abf5 5 = .ok (.aload_n 0, 1) := by decide +kernel
theorem dJ0_length_8abf5_6 : decode cJ0_length_8abf5 6 = .ok (.invokevirtual 335, 3) := by decide +kernel
theorem dJ0_length_8abf5_9 : decode cJ0_length_8abf5 9 = .ok (.ishr, 1) := by decide +kernel
theorem dJ0_length_8abf5_10 : decode cJ0_length_8abf5 10 = .ok (.ireturn, 1) := by decide +kernel
theorem dJ0_charAt_5068e_0 : decode cJ0_charAt_5068e 0 = .ok (.aload_n 0, 1) := by decide +kernel
theorem dJ0_charAt_5068e_1 : decode cJ0_charAt_5068e 1 = .ok (.invokevirtual 492, 3) := by decide +kernel
theorem dJ0_charAt_5068e_4 : decode cJ0_charAt_5068e 4 = .ok (.ifCond .eq 12, 3) := by decide +kernel
theorem dJ0_charAt_5068e_7 : decode cJ0_charAt_5068e 7 = .ok (.aload_n 0, 1) := by decide +kernel
theorem dJ0_charAt_5068e_8 : decode cJ0_charAt_5068e 8 = .ok (.getfield 9, 3) := by decide +kernel
theorem dJ0_charAt_5068e_11 : decode cJ0_charAt_5068e 11 = .ok (.iload_n 1, 1) := by decide +kernel
theorem dJ0_charAt_5068e_12 : decode cJ0_charAt_5068e 12 = .ok (.invokestatic 495, 3) := by decide +kernel
theorem dJ0_charAt_5068e_15 : decode cJ0_charAt_5068e 15 = .ok (.ireturn, 1) := by decide +kernel
theorem dJ0_charAt_5068e_16 : decode cJ0_charAt_5068e 16 = .ok (.aload_n 0, 1) := by decide +kernel
theorem dJ0_charAt_5068e_17 : decode cJ0_charAt_5068e 17 = .ok (.getfield 9, 3) := by decide +kernel
theorem dJ0_charAt_5068e_20 : decode cJ0_charAt_5068e 20 = .ok (.iload_n 1, 1) := by decide +kernel
theorem dJ0_charAt_5068e_21 : decode cJ0_charAt_5068e 21 = .ok (.invokestatic 498, 3) := by decide +kernel
theorem dJ0_charAt_5068e_24 : decode cJ0_charAt_5068e 24 = .ok (.ireturn, 1) := by decide +kernel
theorem dJ0_coder_7d493_0 : decode cJ0_coder_7d493 0 = .ok (.getstatic 38, 3) := by decide +kernel
theorem dJ0_coder_7d493_3 : decode cJ0_coder_7d493 3 = .ok (.ifCond .eq 10, 3) := by decide +kernel
theorem dJ0_coder_7d493_6 : decode cJ0_coder_7d493 6 = .ok (.aload_n 0, 1) := by decide +kernel
theorem dJ0_coder_7d493_7 : decode cJ0_coder_7d493 7 = .ok (.getfield 15, 3) := by decide +kernel
theorem dJ0_coder_7d493_10 : decode cJ0_coder_7d493 10 = .ok (.goto 4, 3) := by decide +kernel
theorem dJ0_coder_7d493_13 : decode cJ0_coder_7d493 13 = .ok (.iconst 1, 1) := by decide +kernel
theorem dJ0_coder_7d493_14 : decode cJ0_coder_7d493 14 = .ok (.ireturn, 1) := by decide +kernel
theorem dJ0_isLatin1_aae02_0 : decode cJ0_isLatin1_aae02 0 = .ok (.getstatic 38, 3) := by decide +kernel
theorem dJ0_isLatin1_aae02_3 : decode cJ0_isLatin1_aae02 3 = .ok (.ifCond .eq 14, 3) := by decide +kernel
theorem dJ0_isLatin1_aae02_6 : decode cJ0_isLatin1_aae02 6 = .ok (.aload_n 0, 1) := by decide +kernel
theorem dJ0_isLatin1_aae02_7 : decode cJ0_isLatin1_aae02 7 = .ok (.getfield 15, 3) := by decide +kernel
theorem dJ0_isLatin1_aae02_10 : decode cJ0_isLatin1_aae02 10 = .ok (.ifCond .ne 7, 3) := by decide +kernel
theorem dJ0_isLatin1_aae02_13 : decode cJ0_isLatin1_aae02 13 = .ok (.iconst 1, 1) := by decide +kernel
theorem dJ0_isLatin1_aae02_14 : decode cJ0_isLatin1_aae02 14 = .ok (.goto 4, 3) := by decide +kernel
theorem dJ0_isLatin1_aae02_17 : decode cJ0_isLatin1_aae02 17 = .ok (.iconst 0, 1) := by decide +kernel
theorem dJ0_isLatin1_aae02_18 : decode cJ0_isLatin1_aae02 18 = .ok (.ireturn, 1) := by decide +kernel
theorem dJ0_checkIndex_df160_0 : decode cJ0_checkIndex_df160 0 = .ok (.iload_n 0, 1) := by decide +kernel
theorem dJ0_checkIndex_df160_1 : decode cJ0_checkIndex_df160 1 = .ok (.iload_n 1, 1) := by decide +kernel
theorem dJ0_checkIndex_df160_2 : decode cJ0_checkIndex_df160 2 = .ok (.getstatic 1053, 3) := by decide +kernel
theorem dJ0_checkIndex_df160_5 : decode cJ0_checkIndex_df160 5 = .ok (.invokestatic 1059, 3) := by decide +kernel
theorem dJ0_checkIndex_df160_8 : decode cJ0_checkIndex_df160 8 = .ok (.pop, 1) := by decide +kernel
theorem dJ0_checkIndex_df160_9 : decode cJ0_checkIndex_df160 9 = .ok (.return_, 1) := by decide +kernel
theorem dJ1_charAt_3b067_0 : decode cJ1_charAt_3b067 0 = .ok (.iload_n 1, 1) := by decide +kernel
theorem dJ1_charAt_3b067_1 : decode cJ1_charAt_3b067 1 = .ok (.aload_n 0, 1) := by decide +kernel
theorem dJ1_charAt_3b067_2 : decode cJ1_charAt_3b067 2 = .ok (.arraylength, 1) := by decide +kernel
theorem dJ1_charAt_3b067_3 : decode cJ1_charAt_3b067 3 = .ok (.invokestatic 9, 3) := by decide +kernel
theorem dJ1_charAt_3b067_6 : decode cJ1_charAt_3b067 6 = .ok (.aload_n 0, 1) := by decide +kernel
theorem dJ1_charAt_3b067_7 : decode cJ1_charAt_3b067 7 = .ok (.iload_n 1, 1) := by decide +kernel
theorem dJ1_charAt_3b067_8 : decode cJ1_charAt_3b067 8 = .ok (.baload, 1) := by decide +kernel
theorem dJ1_charAt_3b067_9 : decode cJ1_charAt_3b067 9 = .ok (.sipush 255, 3) := by decide +kernel
theorem dJ1_charAt_3b067_12 : decode cJ1_charAt_3b067 12 = .ok (.iand, 1) := by decide +kernel
theorem dJ1_charAt_3b067_13 : decode cJ1_charAt_3b067 13 = .ok (.i2c, 1) := by decide +kernel
theorem dJ1_charAt_3b067_14 : decode cJ1_charAt_3b067 14 = .ok (.ireturn, 1) := by decide +kernel
theorem dJ2_getChar_3b067_0 : decode cJ2_getChar_3b067 0 = .ok (.getstatic 44, 3) := by decide +kernel
theorem dJ2_getChar_3b067_3 : decode cJ2_getChar_3b067 3 = .ok (.ifCond .ne 25, 3) := by decide +kernel
theorem dJ2_getChar_3b067_6 : decode cJ2_getChar_3b067 6 = .ok (.iload_n 1, 1) := by decide +kernel
theorem dJ2_getChar_3b067_7 : decode cJ2_getChar_3b067 7 = .ok (.ifCond .lt 11, 3) := by decide +kernel
theorem dJ2_getChar_3b067_10 : decode cJ2_getChar_3b067 10 = .ok (.iload_n 1, 1) := by decide +kernel
theorem dJ2_getChar_3b067_11 : decode cJ2_getChar_3b067 11 = .ok (.aload_n 0, 1) := by decide +kernel
theorem dJ2_getChar_3b067_12 : decode cJ2_getChar_3b067 12 = .ok (.invokestatic 48, 3) := by decide +kernel
theorem dJ2_getChar_3b067_15 : decode cJ2_getChar_3b067 15 = .ok (.if_icmp .lt 13, 3) := by decide +kernel
theorem dJ2_getChar_3b067_18 : decode cJ2_getChar_3b067 18 = .ok (.new 52, 3) := by decide +kernel
theorem dJ2_getChar_3b067_21 : decode cJ2_getChar_3b067 21 = .ok (.dup, 1) := by decide +kernel
theorem dJ2_getChar_3b067_22 : decode cJ2_getChar_3b067 22 = .ok (.ldc 54, 2) := by decide +kernel
theorem dJ2_getChar_3b067_24 : decode cJ2_getChar_3b067 24 = .ok (.invokespecial 56, 3) := by decide +kernel
theorem dJ2_getChar_3b067_27 : decode cJ2_getChar_3b067 27 = .ok (.athrow, 1) := by decide +kernel
theorem dJ2_getChar_3b067_28 : decode cJ2_getChar_3b067 28 = .ok (.iload_n 1, 1) := by decide +kernel
theorem dJ2_getChar_3b067_29 : decode cJ2_getChar_3b067 29 = .ok (.iconst 1, 1) := by decide +kernel
theorem dJ2_getChar_3b067_30 : decode cJ2_getChar_3b067 30 = .ok (.ishl, 1) := by decide +kernel
theorem dJ2_getChar_3b067_31 : decode cJ2_getChar_3b067 31 = .ok (.istore_n 1, 1) := by decide +kernel
theorem dJ2_getChar_3b067_32 : decode cJ2_getChar_3b067 32 = .ok (.aload_n 0, 1) := by decide +kernel
theorem dJ2_getChar_3b067_33 : decode cJ2_getChar_3b067 33 = .ok (.iload_n 1, 1) := by decide +kernel
theorem dJ2_getChar_3b067_34 : decode cJ2_getChar_3b067 34 = .ok (.iinc 1 1, 3) := by decide +kernel
theorem dJ2_getChar_3b067_37 : decode cJ2_getChar_3b067 37 = .ok (.baload, 1) := by decide +kernel
theorem dJ2_getChar_3b067_38 : decode cJ2_getChar_3b067 38 = .ok (.sipush 255, 3) := by decide +kernel
theorem dJ2_getChar_3b067_41 : decode cJ2_getChar_3b067 41 = .ok (.iand, 1) := by decide +kernel
theorem dJ2_getChar_3b067_42 : decode cJ2_getChar_3b067 42 = .ok (.getstatic 59, 3) := by decide +kernel
theorem dJ2_getChar_3b067_45 : decode cJ2_getChar_3b067 45 = .ok (.ishl, 1) := by decide +kernel
theorem dJ2_getChar_3b067_46 : decode cJ2_getChar_3b067 46 = .ok (.aload_n 0, 1) := by decide +kernel
theorem dJ2_getChar_3b067_47 : decode cJ2_getChar_3b067 47 = .ok (.iload_n 1, 1) := by decide +kernel
theorem dJ2_getChar_3b067_48 : decode cJ2_getChar_3b067 48 = .ok (.baload, 1) := by decide +kernel
theorem dJ2_getChar_3b067_49 : decode cJ2_getChar_3b067 49 = .ok (.sipush 255, 3) := by decide +kernel
theorem dJ2_getChar_3b067_52 : decode cJ2_getChar_3b067 52 = .ok (.iand, 1) := by decide +kernel
theorem dJ2_getChar_3b067_53 : decode cJ2_getChar_3b067 53 = .ok (.getstatic 63, 3) := by decide +kernel
theorem dJ2_getChar_3b067_56 : decode cJ2_getChar_3b067 56 = .ok (.ishl, 1) := by decide +kernel
theorem dJ2_getChar_3b067_57 : decode cJ2_getChar_3b067 57 = .ok (.ior, 1) := by decide +kernel
theorem dJ2_getChar_3b067_58 : decode cJ2_getChar_3b067 58 = .ok (.i2c, 1) := by decide +kernel
theorem dJ2_getChar_3b067_59 : decode cJ2_getChar_3b067 59 = .ok (.ireturn, 1) := by decide +kernel
theorem dJ2_length_9d52b_0 : decode cJ2_length_9d52b 0 = .ok (.aload_n 0, 1) := by decide +kernel
theorem dJ2_length_9d52b_1 : decode cJ2_length_9d52b 1 = .ok (.arraylength, 1) := by decide +kernel
theorem dJ2_length_9d52b_2 : decode cJ2_length_9d52b 2 = .ok (.iconst 1, 1) := by decide +kernel
theorem dJ2_length_9d52b_3 : decode cJ2_length_9d52b 3 = .ok (.ishr, 1) := by decide +kernel
theorem dJ2_length_9d52b_4 : decode cJ2_length_9d52b 4 = .ok (.ireturn, 1) := by decide +kernel
theorem dJ2_charAt_3b067_0 : decode cJ2_charAt_3b067 0 = .ok (.iload_n 1, 1) := by decide +kernel
theorem dJ2_charAt_3b067_1 : decode cJ2_charAt_3b067 1 = .ok (.aload_n 0, 1) := by decide +kernel
theorem dJ2_charAt_3b067_2 : decode cJ2_charAt_3b067 2 = .ok (.invokestatic 67, 3) := by decide +kernel
theorem dJ2_charAt_3b067_5 : decode cJ2_charAt_3b067 5 = .ok (.aload_n 0, 1) := by decide +kernel
theorem dJ2_charAt_3b067_6 : decode cJ2_charAt_3b067 6 = .ok (.iload_n 1, 1) := by decide +kernel
theorem dJ2_charAt_3b067_7 : decode cJ2_charAt_3b067 7 = .ok (.invokestatic 71, 3) := by decide +kernel
theorem dJ2_charAt_3b067_10 : decode cJ2_charAt_3b067 10 = .ok (.ireturn, 1) := by decide +kernel
theorem dJ2_checkIndex_2214a_0 : decode cJ2_checkIndex_2214a 0 = .ok (.iload_n 0, 1) := by decide +kernel
theorem dJ2_checkIndex_2214a_1 : decode cJ2_checkIndex_2214a 1 = .ok (.aload_n 1, 1) := by decide +kernel
theorem dJ2_checkIndex_2214a_2 : decode cJ2_checkIndex_2214a 2 = .ok (.invokestatic 48, 3) := by decide +kernel
theorem dJ2_checkIndex_2214a_5 : decode cJ2_checkIndex_2214a 5 = .ok (.invokestatic 414, 3) := by decide +kernel
theorem dJ2_checkIndex_2214a_8 : decode cJ2_checkIndex_2214a 8 = .ok (.return_, 1) := by decide +kernel
theorem dJ3_checkIndex_8e157_0 : decode cJ3_checkIndex_8e157 0 = .ok (.iload_n 0, 1) := by decide +kernel
theorem dJ3_checkIndex_8e157_1 : decode cJ3_checkIndex_8e157 1 = .ok (.ifCond .lt 8, 3) := by decide +kernel
theorem dJ3_checkIndex_8e157_4 : decode cJ3_checkIndex_8e157 4 = .ok (.iload_n 0, 1) := by decide +kernel
theorem dJ3_checkIndex_8e157_5 : decode cJ3_checkIndex_8e157 5 = .ok (.iload_n 1, 1) := by decide +kernel
theorem dJ3_checkIndex_8e157_6 : decode cJ3_checkIndex_8e157 6 = .ok (.if_icmp .lt 10, 3) := by decide +kernel
theorem dJ3_checkIndex_8e157_9 : decode cJ3_checkIndex_8e157 9 = .ok (.aload_n 2, 1) := by decide +kernel
theorem dJ3_checkIndex_8e157_10 : decode cJ3_checkIndex_8e157 10 = .ok (.iload_n 0, 1) := by decide +kernel
theorem dJ3_checkIndex_8e157_11 : decode cJ3_checkIndex_8e157 11 = .ok (.iload_n 1, 1) := by decide +kernel
theorem dJ3_checkIndex_8e157_12 : decode cJ3_checkIndex_8e157 12 = .ok (.invokestatic 95, 3) := by decide +kernel
theorem dJ3_checkIndex_8e157_15 : decode cJ3_checkIndex_8e157 15 = .ok (.athrow, 1) := by decide +kernel
theorem dJ3_checkIndex_8e157_16 : decode cJ3_checkIndex_8e157 16 = .ok (.iload_n 0, 1) := by decide +kernel
theorem dJ3_checkIndex_8e157_17 : decode cJ3_checkIndex_8e157 17 = .ok (.ireturn, 1) := by decide +kernel

set_option maxRecDepth 100000 in
set_option maxHeartbeats 4000000 in
theorem c_J0_coder_7d493 (l : Launch) (g : xCfg) (i : Nat) (hi : i < 9) : Ct l g yJ0_coder_7d493 cJ0_coder_7d493 1 (some .byte) (xR 0 0) [.ref (g.2.2.2.2.1 i)] [] (is1 (some (.int 0)) []) := by
  refine Ct.walk (by decide) (Nat.le_of_ble_eq_true rfl) ?_
  intro p0 e0 s0 m0 below meth c0 A0 ls Q hQ E hr hnm hw hl
  have hx := E.x
  have hb := E.b
  have hl : lv_has ls 1 [(0, .ref (g.2.2.2.2.1 i))] := hl
  refine va_gets hx hb E.cmp hw.2.2 E.ow (E.ts (.fieldLink RJ0 38 "java/lang/String" "COMPACT_STRINGS" "Z") (wB 666 rfl rfl)) (fun _ h => h) dJ0_coder_7d493_0 ?_
  refine lv_if_eq (tgt := 13) hx hb dJ0_coder_7d493_3 (by decide) (fun h => absurd h (by decide)) (fun _ => ?_)
  refine lv_aload_n hx hb dJ0_coder_7d493_6 rfl (lv_at hl 0 rfl) ?_
  refine vk_getf hx hb (E.str.1 i hi).2.1 hw.2.2 E.ow (E.ts (.fieldLink RJ0 15 "java/lang/String" "coder" "B") (wB 1095 rfl rfl)) (fun _ h => h) dJ0_coder_7d493_7 ?_
  refine lv_goto (tgt := 14) hx hb dJ0_coder_7d493_10 (by decide) ?_
  exact xr_n hQ E hr hw dJ0_coder_7d493_14 rfl ⟨rfl, rfl⟩

set_option maxRecDepth 100000 in
set_option maxHeartbeats 4000000 in
theorem c_J0_isLatin1_aae02 (l : Launch) (g : xCfg) (i : Nat) (hi : i < 9) : Ct l g yJ0_isLatin1_aae02 cJ0_isLatin1_aae02 1 (some .boolean) (xR 0 0) [.ref (g.2.2.2.2.1 i)] [] (is1 (some (.int 1)) []) := by
  refine Ct.walk (by decide) (Nat.le_of_ble_eq_true rfl) ?_
  intro p0 e0 s0 m0 below meth c0 A0 ls Q hQ E hr hnm hw hl
  have hx := E.x
  have hb := E.b
  have hl : lv_has ls 1 [(0, .ref (g.2.2.2.2.1 i))] := hl
  refine va_gets hx hb E.cmp hw.2.2 E.ow (E.ts (.fieldLink RJ0 38 "java/lang/String" "COMPACT_STRINGS" "Z") (wB 666 rfl rfl)) (fun _ h => h) dJ0_isLatin1_aae02_0 ?_
  refine lv_if_eq (tgt := 17) hx hb dJ0_isLatin1_aae02_3 (by decide) (fun h => absurd h (by decide)) (fun _ => ?_)
  refine lv_aload_n hx hb dJ0_isLatin1_aae02_6 rfl (lv_at hl 0 rfl) ?_
  refine vk_getf hx hb (E.str.1 i hi).2.1 hw.2.2 E.ow (E.ts (.fieldLink RJ0 15 "java/lang/String" "coder" "B") (wB 1095 rfl rfl)) (fun _ h => h) dJ0_isLatin1_aae02_7 ?_
  refine lv_if_ne (tgt := 17) hx hb dJ0_isLatin1_aae02_10 (by decide) (fun h => absurd h (by decide)) (fun _ => ?_)
  refine lv_iconst (v := 1) hx hb dJ0_isLatin1_aae02_13 (by decide) ?_
  refine lv_goto (tgt := 18) hx hb dJ0_isLatin1_aae02_14 (by decide) ?_
  exact xr_z hQ E hr hw dJ0_isLatin1_aae02_18 (by decide) ⟨rfl, rfl⟩

set_option maxRecDepth 100000 in
set_option maxHeartbeats 4000000 in
theorem c_J0_length_8abf5 (l : Launch) (g : xCfg) (i : Nat) (hi : i < 9) : Ct l g yJ0_length_8abf5 cJ0_length_8abf5 1 (some .int) (xR 1 20) [.ref (g.2.2.2.2.1 i)] [] (is1 (some (.int (nI (xLen.getD i 0)))) []) := by
  refine Ct.walk (by decide) (Nat.le_of_ble_eq_true rfl) ?_
  intro p0 e0 s0 m0 below meth c0 A0 ls Q hQ E hr hnm hw hl
  have hx := E.x
  have hb := E.b
  have hl : lv_has ls 1 [(0, .ref (g.2.2.2.2.1 i))] := hl
  refine lv_aload_n hx hb dJ0_length_8abf5_0 rfl (lv_at hl 0 rfl) ?_
  refine vk_getf hx hb (E.str.1 i hi).2.2.1 hw.2.2 E.ow (E.ts (.fieldLink RJ0 9 "java/lang/String" "value" "[B") (wB 1094 rfl rfl)) (fun _ h => h) dJ0_length_8abf5_1 ?_
  refine va_tlen (v := nI (xLen.getD i 0)) hx hb (E.str.1 i hi).2.2.2 hw.2.2 rfl dJ0_length_8abf5_4 ?_
  refine lv_aload_n hx hb dJ0_length_8abf5_5 rfl (lv_at hl 0 rfl) ?_
  refine x_go (ws' := []) (st1 := [.int 0, .int (nI (xLen.getD i 0))]) E hw [] rfl (x_runK (i := i) (rest := [.int (nI (xLen.getD i 0))]) E hw (c_J0_coder_7d493 l g i (by omega)) km_J0_335 ki_J0_coder_7d493 (wB 664 rfl rfl) hi [] rfl (by decide) hl.1 rfl rfl (Nat.le_of_ble_eq_true rfl) ⟨Nat.le_of_ble_eq_true rfl, Nat.le_of_ble_eq_true rfl⟩ ⟨Nat.zero_le _, Nat.zero_le _⟩ dJ0_length_8abf5_6) rfl rfl rfl (fun H locs hw => ?_)
  refine lv_ishr hx hb dJ0_length_8abf5_9 ?_
  refine x_top (v' := .int (nI (xLen.getD i 0))) (congrArg Value.int (sb_shr0 _)) ?_
  exact xr_i hQ E hr hw dJ0_length_8abf5_10 ⟨rfl, rfl⟩

set_option maxRecDepth 100000 in
set_option maxHeartbeats 4000000 in
theorem c_J3_checkIndex_n (l : Launch) (g : xCfg) (j : Nat) (z : Nat) (hj : j < z) (hz : z ≤ 6) : Ct l g yJ3_checkIndex_8e157 cJ3_checkIndex_8e157 3 (some .int) (xR 0 0) [.int (nI j), .int (nI z), .null] [] (is1 (some (.int (nI j))) []) := by
  refine Ct.walk (by decide) (Nat.le_of_ble_eq_true rfl) ?_
  intro p0 e0 s0 m0 below meth c0 A0 ls Q hQ E hr hnm hw hl
  have hx := E.x
  have hb := E.b
  have hl : lv_has ls 3 [(0, .int (nI j)), (1, .int (nI z)), (2, .null)] := hl
  refine lv_iload_n hx hb dJ3_checkIndex_8e157_0 rfl (lv_at hl 0 rfl) ?_
  refine lv_if_lt (tgt := 9) hx hb dJ3_checkIndex_8e157_1 (by decide) (fun c_1 => ?_) (fun c_1 => ?_)
  · exact absurd c_1 (nI_pos (by omega))
  · refine lv_iload_n hx hb dJ3_checkIndex_8e157_4 rfl (lv_at hl 0 rfl) ?_
    refine lv_iload_n hx hb dJ3_checkIndex_8e157_5 rfl (lv_at hl 1 rfl) ?_
    refine xn_lt (tgt := 16) hx hb j z rfl rfl (by omega) (by omega) dJ3_checkIndex_8e157_6 (by decide) (fun c_1 => ?_) (fun c_1 => ?_)
    · refine lv_iload_n hx hb dJ3_checkIndex_8e157_16 rfl (lv_at hl 0 rfl) ?_
      exact xr_i hQ E hr hw dJ3_checkIndex_8e157_17 ⟨rfl, rfl⟩
    · exact absurd c_1 (by omega)

set_option maxRecDepth 100000 in
set_option maxHeartbeats 4000000 in
theorem c_J3_checkIndex_r (l : Launch) (g : xCfg) (j : Nat) (z : Nat) (u : Nat) (hj : j < z) (hz : z ≤ 6) : Ct l g yJ3_checkIndex_8e157 cJ3_checkIndex_8e157 3 (some .int) (xR 0 0) [.int (nI j), .int (nI z), .ref u] [] (is1 (some (.int (nI j))) []) := by
  refine Ct.walk (by decide) (Nat.le_of_ble_eq_true rfl) ?_
  intro p0 e0 s0 m0 below meth c0 A0 ls Q hQ E hr hnm hw hl
  have hx := E.x
  have hb := E.b
  have hl : lv_has ls 3 [(0, .int (nI j)), (1, .int (nI z)), (2, .ref u)] := hl
  refine lv_iload_n hx hb dJ3_checkIndex_8e157_0 rfl (lv_at hl 0 rfl) ?_
  refine lv_if_lt (tgt := 9) hx hb dJ3_checkIndex_8e157_1 (by decide) (fun c_1 => ?_) (fun c_1 => ?_)
  · exact absurd c_1 (nI_pos (by omega))
  · refine lv_iload_n hx hb dJ3_checkIndex_8e157_4 rfl (lv_at hl 0 rfl) ?_
    refine lv_iload_n hx hb dJ3_checkIndex_8e157_5 rfl (lv_at hl 1 rfl) ?_
    refine xn_lt (tgt := 16) hx hb j z rfl rfl (by omega) (by omega) dJ3_checkIndex_8e157_6 (by decide) (fun c_1 => ?_) (fun c_1 => ?_)
    · refine lv_iload_n hx hb dJ3_checkIndex_8e157_16 rfl (lv_at hl 0 rfl) ?_
      exact xr_i hQ E hr hw dJ3_checkIndex_8e157_17 ⟨rfl, rfl⟩
    · exact absurd c_1 (by omega)

set_option maxRecDepth 100000 in
set_option maxHeartbeats 4000000 in
theorem c_J0_checkIndex_df160 (l : Launch) (g : xCfg) (j : Nat) (z : Nat) (hj : j < z) (hz : z ≤ 6) : Ct l g yJ0_checkIndex_df160 cJ0_checkIndex_df160 2 none (xR 1 22) [.int (nI j), .int (nI z)] [] (is1 none []) := by
  refine Ct.walk (by decide) (Nat.le_of_ble_eq_true rfl) ?_
  intro p0 e0 s0 m0 below meth c0 A0 ls Q hQ E hr hnm hw hl
  have hx := E.x
  have hb := E.b
  have hl : lv_has ls 2 [(0, .int (nI j)), (1, .int (nI z))] := hl
  refine lv_iload_n hx hb dJ0_checkIndex_df160_0 rfl (lv_at hl 0 rfl) ?_
  refine lv_iload_n hx hb dJ0_checkIndex_df160_1 rfl (lv_at hl 1 rfl) ?_
  rcases E.sio with hz1 | ⟨u, hz1⟩
  · refine va_gets hx hb hz1 hw.2.2 E.ow (E.ts (.fieldLink RJ0 1053 "jdk/internal/util/Preconditions" "SIOOBE_FORMATTER" "Ljava/util/function/BiFunction;") (wB 682 rfl rfl)) (fun _ h => h) dJ0_checkIndex_df160_2 ?_
    refine x_go (ws' := []) (st1 := [.int (nI j)]) E hw [] rfl (x_runS (rest := []) E hw (c_J3_checkIndex_n l g j z (by omega) (by omega)) km_J0_1059 ks_J3_checkIndex_8e157 [] rfl (by decide) hl.1 rfl rfl (Nat.le_of_ble_eq_true rfl) ⟨Nat.le_of_ble_eq_true rfl, Nat.le_of_ble_eq_true rfl⟩ ⟨Nat.zero_le _, Nat.zero_le _⟩ dJ0_checkIndex_df160_5) rfl rfl rfl (fun H locs hw => ?_)
    refine lv_pop hx hb dJ0_checkIndex_df160_8 rfl ?_
    exact xr_v hQ E hr hw dJ0_checkIndex_df160_9 ⟨rfl, rfl⟩
  · refine va_gets hx hb hz1 hw.2.2 E.ow (E.ts (.fieldLink RJ0 1053 "jdk/internal/util/Preconditions" "SIOOBE_FORMATTER" "Ljava/util/function/BiFunction;") (wB 682 rfl rfl)) (fun _ h => h) dJ0_checkIndex_df160_2 ?_
    refine x_go (ws' := []) (st1 := [.int (nI j)]) E hw [] rfl (x_runS (rest := []) E hw (c_J3_checkIndex_r l g j z u (by omega) (by omega)) km_J0_1059 ks_J3_checkIndex_8e157 [] rfl (by decide) hl.1 rfl rfl (Nat.le_of_ble_eq_true rfl) ⟨Nat.le_of_ble_eq_true rfl, Nat.le_of_ble_eq_true rfl⟩ ⟨Nat.zero_le _, Nat.zero_le _⟩ dJ0_checkIndex_df160_5) rfl rfl rfl (fun H locs hw => ?_)
    refine lv_pop hx hb dJ0_checkIndex_df160_8 rfl ?_
    exact xr_v hQ E hr hw dJ0_checkIndex_df160_9 ⟨rfl, rfl⟩

set_option maxRecDepth 100000 in
set_option maxHeartbeats 4000000 in
theorem c_J1_charAt_3b067 (l : Launch) (g : xCfg) (i : Nat) (j : Nat) (hi : i < 9) (hj : j < xLen.getD i 0) : Ct l g yJ1_charAt_3b067 cJ1_charAt_3b067 2 (some .char) (xR 2 43) [.ref (g.2.2.2.2.2 i), .int (nI j)] [] (is1 (some (.int (chr i j))) []) := by
  refine Ct.walk (by decide) (Nat.le_of_ble_eq_true rfl) ?_
  intro p0 e0 s0 m0 below meth c0 A0 ls Q hQ E hr hnm hw hl
  have hx := E.x
  have hb := E.b
  have hl : lv_has ls 2 [(0, .ref (g.2.2.2.2.2 i)), (1, .int (nI j))] := hl
  refine lv_iload_n hx hb dJ1_charAt_3b067_0 rfl (lv_at hl 1 rfl) ?_
  refine lv_aload_n hx hb dJ1_charAt_3b067_1 rfl (lv_at hl 0 rfl) ?_
  refine va_tlen (v := nI (xLen.getD i 0)) hx hb (E.str.1 i hi).2.2.2 hw.2.2 rfl dJ1_charAt_3b067_2 ?_
  refine x_go (ws' := []) (st1 := []) E hw [] rfl (x_runS (rest := []) E hw (c_J0_checkIndex_df160 l g j (xLen.getD i 0) (by omega) (xLen_le i hi)) km_J1_9 ks_J0_checkIndex_df160 [] rfl (by decide) hl.1 rfl rfl (Nat.le_of_ble_eq_true rfl) ⟨Nat.le_of_ble_eq_true rfl, Nat.le_of_ble_eq_true rfl⟩ ⟨Nat.zero_le _, Nat.zero_le _⟩ dJ1_charAt_3b067_3) rfl rfl rfl (fun H locs hw => ?_)
  refine lv_aload_n hx hb dJ1_charAt_3b067_6 rfl (lv_at hl 0 rfl) ?_
  refine lv_iload_n hx hb dJ1_charAt_3b067_7 rfl (lv_at hl 1 rfl) ?_
  refine va_tb (v := .int (chr i j)) hx hb (E.str.1 i hi).2.2.2 hw.2.2 (vp_in_nI hj (by have := xLen_le i hi; omega)) (by rw [nI_clamp (by have := xLen_le i hi; omega)]; rfl) dJ1_charAt_3b067_8 ?_
  refine lv_sipush (v := 255) hx hb dJ1_charAt_3b067_9 (by decide) ?_
  refine lv_iand hx hb dJ1_charAt_3b067_12 ?_
  refine lv_i2c (v := chr i j) hx hb dJ1_charAt_3b067_13 (chr_ok i hi j hj).1 ?_
  exact xr_n hQ E hr hw dJ1_charAt_3b067_14 (chr_ok i hi j hj).2 ⟨rfl, rfl⟩

set_option maxRecDepth 100000 in
set_option maxHeartbeats 4000000 in
theorem c_J0_charAt_5068e (l : Launch) (g : xCfg) (i : Nat) (j : Nat) (hi : i < 9) (hj : j < xLen.getD i 0) : Ct l g yJ0_charAt_5068e cJ0_charAt_5068e 2 (some .char) (xR 3 64) [.ref (g.2.2.2.2.1 i), .int (nI j)] [] (is1 (some (.int (chr i j))) []) := by
  refine Ct.walk (by decide) (Nat.le_of_ble_eq_true rfl) ?_
  intro p0 e0 s0 m0 below meth c0 A0 ls Q hQ E hr hnm hw hl
  have hx := E.x
  have hb := E.b
  have hl : lv_has ls 2 [(0, .ref (g.2.2.2.2.1 i)), (1, .int (nI j))] := hl
  refine lv_aload_n hx hb dJ0_charAt_5068e_0 rfl (lv_at hl 0 rfl) ?_
  refine x_go (ws' := []) (st1 := [.int 1]) E hw [] rfl (x_runK (i := i) (rest := []) E hw (c_J0_isLatin1_aae02 l g i (by omega)) km_J0_492 ki_J0_isLatin1_aae02 (wB 674 rfl rfl) hi [] rfl (by decide) hl.1 rfl rfl (Nat.le_of_ble_eq_true rfl) ⟨Nat.le_of_ble_eq_true rfl, Nat.le_of_ble_eq_true rfl⟩ ⟨Nat.zero_le _, Nat.zero_le _⟩ dJ0_charAt_5068e_1) rfl rfl rfl (fun H locs hw => ?_)
  refine lv_if_eq (tgt := 16) hx hb dJ0_charAt_5068e_4 (by decide) (fun h => absurd h (by decide)) (fun _ => ?_)
  refine lv_aload_n hx hb dJ0_charAt_5068e_7 rfl (lv_at hl 0 rfl) ?_
  refine vk_getf hx hb (E.str.1 i hi).2.2.1 hw.2.2 E.ow (E.ts (.fieldLink RJ0 9 "java/lang/String" "value" "[B") (wB 1094 rfl rfl)) (fun _ h => h) dJ0_charAt_5068e_8 ?_
  refine lv_iload_n hx hb dJ0_charAt_5068e_11 rfl (lv_at hl 1 rfl) ?_
  refine x_go (ws' := []) (st1 := [.int (chr i j)]) E hw [] rfl (x_runS (rest := []) E hw (c_J1_charAt_3b067 l g i j (by omega) (by omega)) km_J0_495 ks_J1_charAt_3b067 [] rfl (by decide) hl.1 rfl rfl (Nat.le_of_ble_eq_true rfl) ⟨Nat.le_of_ble_eq_true rfl, Nat.le_of_ble_eq_true rfl⟩ ⟨Nat.zero_le _, Nat.zero_le _⟩ dJ0_charAt_5068e_12) rfl rfl rfl (fun H locs hw => ?_)
  exact xr_n hQ E hr hw dJ0_charAt_5068e_15 (chr_ok i hi j hj).2 ⟨rfl, rfl⟩
end
