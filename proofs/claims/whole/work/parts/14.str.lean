section XS
variable {l : Launch} {g : xCfg} {p : Program} {e : Env} {R : Room} {s : State} {m : MethodId} {args : Array Value} {below : List Frame} {meth : Method} {c : Code} {cc : ByteArray} {nL : Nat} {own : String} {A : Nat → Prop} {ws ws' : va_W} {H : Heap} {locs : List Loc} {cells slots : Nat} {Q : State → Prop} {pc : Nat} {ls : Array Slot} {rest : List Value}
theorem xE.cmp (E : xE g p s m args meth c cc nL own A) : va_Z "java/lang/String" "COMPACT_STRINGS" "Z" (.int 1) A s s.heap := E.2.2.2.2.2.2.2.2.1
theorem xE.sio (E : xE g p s m args meth c cc nL own A) : va_Zq "jdk/internal/util/Preconditions" "SIOOBE_FORMATTER" "Ljava/util/function/BiFunction;" A s s.heap := E.2.2.2.2.2.2.2.2.2.1
theorem xE.str (E : xE g p s m args meth c cc nL own A) : vk_S 9 xLen xByt g.2.2.2.2.1 g.2.2.2.2.2 A s s.heap := E.2.2.2.2.2.2.2.2.2.2
theorem xE.lit (E : xE g p s m args meth c cc nL own A) (i : Nat) (hi : i < 9) : vk_R RX3 (88 + 2 * i) (xTx.getD i "") (g.2.2.2.2.1 i) s := E.2.2.2.2.1.2.2 i hi
theorem x_runK {y : MethodName} {yc : ByteArray} {yn n : Nat} {yr : Option FieldType} {rm : Room} {index : Nat} {post : Option Value → va_W → Prop} {wc : va_W} {As st0 : List Value} {i : Nat} (E : xE g p s m args meth c cc nL own A) (hw : xW g A s ws H locs) (hM : Ct l g y yc yn yr rm (.ref (g.2.2.2.2.1 i) :: As) wc post) (k1 : xML own index y yc yn yr n) (k2 : Cond.instanceMethod y ∈ wBig) (k3 : Cond.selects "java/lang/String" y y ∈ wBig) (hi : i < 9) (isC : List Nat) (hC : isC.map (fun i => ws[i]?) = wc.map some) (hnd : va_nd isC = true)
    (hls : ls.size = nL) (hst : st0 = As.reverse ++ .ref (g.2.2.2.2.1 i) :: rest) (hn : As.length = n) (h8 : (rest.map fun v => v.category).sum ≤ 8) (hR : rm.frames + 1 ≤ R.frames ∧ 8 + (yn + 11) + rm.locals ≤ R.locals) (hf : cells + rm.cells ≤ R.cells ∧ slots + rm.slots ≤ R.slots) (hdg : decode cc pc = .ok (.invokevirtual index, 3)) :
    va_Run p l e R s m args below meth c H locs cells slots rm.cells rm.slots (F0 m pc ls st0) rest (xQ g (va_A wc H.size) post (Value.ref (g.2.2.2.2.1 i) :: As).toArray) (va_A wc H.size) :=
  va_runV (C := "java/lang/String") (n := n) E.1 (hM H.size) ⟨callB_of n E.ts (wGood k1.1) rfl rfl rfl (E.ts _ k1.2.1) (E.ts _ k1.2.2.2) k1.2.2.1 hR, E.ts _ k2, E.ts _ k3⟩ ⟨x_blind g _ _ _, vk_recv E.str hi hw.2.2, x_pre E hw isC hC hnd _⟩ rfl hn hls hst (lv_room h8) hdg hf
theorem xr_n {post : Option Value → va_W → Prop} {v : Int32} {w1 : va_W} {ty : FieldType} (hQ : Q = MQ below (xQ g A post) args s cells slots A) (E : xE g p s m args meth c cc nL own A) (hr : meth.sig.returnType = some ty) (hw : xW g A s w1 H locs) (hdg : decode cc pc = .ok (.ireturn, 1)) (hn : narrow ty (.int v) = .int v) (hp : post (some (.int v)) w1) : W p l e R s m args below meth c H locs cells slots Q (F0 m pc ls [.int v]) := by
  subst hQ
  exact W.zret (v := v) E.x E.b hr hn (hw.fin E hp) hw.2.2.2.2 hdg E.2.1
end XS
def chr (i j : Nat) : Int32 := (xByt.getD i []).getD j 0
theorem chr_ok : ∀ i, i < 9 → ∀ j, j < xLen.getD i 0 → ((chr i j &&& 255).toUInt32 % 65536).toInt32 = chr i j ∧ narrow .char (.int (chr i j)) = .int (chr i j) := by decide
theorem xLen_le : ∀ i, i < 9 → xLen.getD i 0 ≤ 6 := by decide
theorem dJ9_max_7cf53_0 : decode cJ9_max_7cf53 0 = .ok (.iload_n 0, 1) := by decide +kernel
theorem dJ9_max_7cf53_1 : decode cJ9_max_7cf53 1 = .ok (.iload_n 1, 1) := by decide +kernel
theorem dJ9_max_7cf53_2 : decode cJ9_max_7cf53 2 = .ok (.if_icmp .lt 7, 3) := by decide +kernel
theorem dJ9_max_7cf53_5 : decode cJ9_max_7cf53 5 = .ok (.iload_n 0, 1) := by decide +kernel
theorem dJ9_max_7cf53_6 : decode cJ9_max_7cf53 6 = .ok (.goto 4, 3) := by decide +kernel
theorem dJ9_max_7cf53_9 : decode cJ9_max_7cf53 9 = .ok (.iload_n 1, 1) := by decide +kernel
theorem dJ9_max_7cf53_10 : decode cJ9_max_7cf53 10 = .ok (.ireturn, 1) := by decide +kernel
theorem dJ9_min_7cf53_0 : decode cJ9_min_7cf53 0 = .ok (.iload_n 0, 1) := by decide +kernel
theorem dJ9_min_7cf53_1 : decode cJ9_min_7cf53 1 = .ok (.iload_n 1, 1) := by decide +kernel
theorem dJ9_min_7cf53_2 : decode cJ9_min_7cf53 2 = .ok (.if_icmp .gt 7, 3) := by decide +kernel
theorem dJ9_min_7cf53_5 : decode cJ9_min_7cf53 5 = .ok (.iload_n 0, 1) := by decide +kernel
theorem dJ9_min_7cf53_6 : decode cJ9_min_7cf53 6 = .ok (.goto 4, 3) := by decide +kernel
theorem dJ9_min_7cf53_9 : decode cJ9_min_7cf53 9 = .ok (.iload_n 1, 1) := by decide +kernel
theorem dJ9_min_7cf53_10 : decode cJ9_min_7cf53 10 = .ok (.ireturn, 1) := by decide +kernel
theorem dJ0_length_8abf5_0 : decode cJ0_length_8abf5 0 = .ok (.aload_n 0, 1) := by decide +kernel
theorem dJ0_length_8abf5_1 : decode cJ0_length_8abf5 1 = .ok (.getfield 9, 3) := by decide +kernel
theorem dJ0_length_8abf5_4 : decode cJ0_length_8abf5 4 = .ok (.arraylength, 1) := by decide +kernel
theorem dJ0_length_8abf5_5 : decode cJ0_length_8abf5 5 = .ok (.aload_n 0, 1) := by decide +kernel
theorem dJ0_length_8abf5_6 : decode cJ0_length_8abf5 6 = .ok (.invokevirtual 335, 3) := by decide +kernel
theorem dJ0_length_8abf5_9 : decode cJ0_length_8abf5 9 = .ok (.ishr, 1) := by decide +kernel
theorem dJ0_length_8abf5_10 : decode cJ0_length_8abf5 10 = .ok (.ireturn, 1) := by decide +kernel
theorem dJ0_charAt_5068e_0 : decode cJ0_charAt_5068e 0 = .ok (.aload_n 0, 1) := by decide +kernel
theorem dJ0_charAt_5068e_1 : decode cJ0_charAt_5068e 1 = .ok (.invokevirtual 492, 3) := by decide +kernel
theorem dJ0_charAt_5068e_4 : decode cJ0_charAt_5068e 4 = .ok (.ifCond .eq 12, 3) := by decide +kernel
theorem dJ0_charAt_5068e_7 : decode cJ0_charAt_5068e 7 = .ok (.aload_n 0, 1) := by decide +kernel
theorem dJ0_charAt_5068e_8 : decode cJ0_charAt_5068e 8 = .ok (.getfield 9, 3) := by decide +kernel
theorem dJ0_charAt_5068e_11 : decode cJ0_charAt_5068e 11 = .ok (.iload_n 1, 1) := by decide +kernel
theorem dJ0_charAt_5068e_12 : decode cJ0_charAt_5068e 12 = .ok (.invokestatic 495, 3) := by decide +kernel
theorem dJ0_charAt_5068e_15 : decode cJ0_charAt_5068e 15 = .ok (.ireturn, 1) := by decide +kernel
theorem dJ0_charAt_5068e_16 : decode cJ0_charAt_5068e 16 = .ok (.aload_n 0, 1) := by decide +kernel
theorem dJ0_charAt_5068e_17 : decode cJ0_charAt_5068e 17 = .ok (.getfield 9, 3) := by decide +kernel
theorem dJ0_charAt_5068e_20 : decode cJ0_charAt_5068e 20 = .ok (.iload_n 1, 1) := by decide +kernel
theorem dJ0_charAt_5068e_21 : decode cJ0_charAt_5068e 21 = .ok (.invokestatic 498, 3) := by decide +kernel
theorem dJ0_charAt_5068e_24 : decode cJ0_charAt_5068e 24 = .ok (.ireturn, 1) := by decide +kernel
theorem dJ0_coder_7d493_0 : decode cJ0_coder_7d493 0 = .ok (.getstatic 38, 3) := by decide +kernel
theorem dJ0_coder_7d493_3 : decode cJ0_coder_7d493 3 = .ok (.ifCond .eq 10, 3) := by decide +kernel
theorem dJ0_coder_7d493_6 : decode cJ0_coder_7d493 6 = .ok (.aload_n 0, 1) := by decide +kernel
theorem dJ0_coder_7d493_7 : decode cJ0_coder_7d493 7 = .ok (.getfield 15, 3) := by decide +kernel
theorem dJ0_coder_7d493_10 : decode cJ0_coder_7d493 10 = .ok (.goto 4, 3) := by decide +kernel
theorem dJ0_coder_7d493_13 : decode cJ0_coder_7d493 13 = .ok (.iconst 1, 1) := by decide +kernel
theorem dJ0_coder_7d493_14 : decode cJ0_coder_7d493 14 = .ok (.ireturn, 1) := by decide +kernel
theorem dJ0_isLatin1_aae02_0 : decode cJ0_isLatin1_aae02 0 = .ok (.getstatic 38, 3) := by decide +kernel
theorem dJ0_isLatin1_aae02_3 : decode cJ0_isLatin1_aae02 3 = .ok (.ifCond .eq 14, 3) := by decide +kernel
theorem dJ0_isLatin1_aae02_6 : decode cJ0_isLatin1_aae02 6 = .ok (.aload_n 0, 1) := by decide +kernel
theorem dJ0_isLatin1_aae02_7 : decode cJ0_isLatin1_aae02 7 = .ok (.getfield 15, 3) := by decide +kernel
theorem dJ0_isLatin1_aae02_10 : decode cJ0_isLatin1_aae02 10 = .ok (.ifCond .ne 7, 3) := by decide +kernel
theorem dJ0_isLatin1_aae02_13 : decode cJ0_isLatin1_aae02 13 = .ok (.iconst 1, 1) := by decide +kernel
theorem dJ0_isLatin1_aae02_14 : decode cJ0_isLatin1_aae02 14 = .ok (.goto 4, 3) := by decide +kernel
theorem dJ0_isLatin1_aae02_17 : decode cJ0_isLatin1_aae02 17 = .ok (.iconst 0, 1) := by decide +kernel
theorem dJ0_isLatin1_aae02_18 : decode cJ0_isLatin1_aae02 18 = .ok (.ireturn, 1) := by decide +kernel
theorem dJ0_checkIndex_df160_0 : decode cJ0_checkIndex_df160 0 = .ok (.iload_n 0, 1) := by decide +kernel
theorem dJ0_checkIndex_df160_1 : decode cJ0_checkIndex_df160 1 = .ok (.iload_n 1, 1) := by decide +kernel
theorem dJ0_checkIndex_df160_2 : decode cJ0_checkIndex_df160 2 = .ok (.getstatic 1053, 3) := by decide +kernel
theorem dJ0_checkIndex_df160_5 : decode cJ0_checkIndex_df160 5 = .ok (.invokestatic 1059, 3) := by decide +kernel
theorem dJ0_checkIndex_df160_8 : decode cJ0_checkIndex_df160 8 = .ok (.pop, 1) := by decide +kernel
theorem dJ0_checkIndex_df160_9 : decode cJ0_checkIndex_df160 9 = .ok (.return_, 1) := by decide +kernel
theorem dJ1_charAt_3b067_0 : decode cJ1_charAt_3b067 0 = .ok (.iload_n 1, 1) := by decide +kernel
theorem dJ1_charAt_3b067_1 : decode cJ1_charAt_3b067 1 = .ok (.aload_n 0, 1) := by decide +kernel
theorem dJ1_charAt_3b067_2 : decode cJ1_charAt_3b067 2 = .ok (.arraylength, 1) := by decide +kernel
theorem dJ1_charAt_3b067_3 : decode cJ1_charAt_3b067 3 = .ok (.invokestatic 9, 3) := by decide +kernel
theorem dJ1_charAt_3b067_6 : decode cJ1_charAt_3b067 6 = .ok (.aload_n 0, 1) := by decide +kernel
theorem dJ1_charAt_3b067_7 : decode cJ1_charAt_3b067 7 = .ok (.iload_n 1, 1) := by decide +kernel
theorem dJ1_charAt_3b067_8 : decode cJ1_charAt_3b067 8 = .ok (.baload, 1) := by decide +kernel
theorem dJ1_charAt_3b067_9 : decode cJ1_charAt_3b067 9 = .ok (.sipush 255, 3) := by decide +kernel
theorem dJ1_charAt_3b067_12 : decode cJ1_charAt_3b067 12 = .ok (.iand, 1) := by decide +kernel
theorem dJ1_charAt_3b067_13 : decode cJ1_charAt_3b067 13 = .ok (.i2c, 1) := by decide +kernel
theorem dJ1_charAt_3b067_14 : decode cJ1_charAt_3b067 14 = .ok (.ireturn, 1) := by decide +kernel
theorem dJ2_getChar_3b067_0 : decode cJ2_getChar_3b067 0 = .ok (.getstatic 44, 3) := by decide +kernel
theorem dJ2_getChar_3b067_3 : decode cJ2_getChar_3b067 3 = .ok (.ifCond .ne 25, 3) := by decide +kernel
theorem dJ2_getChar_3b067_6 : decode cJ2_getChar_3b067 6 = .ok (.iload_n 1, 1) := by decide +kernel
theorem dJ2_getChar_3b067_7 : decode cJ2_getChar_3b067 7 = .ok (.ifCond .lt 11, 3) := by decide +kernel
theorem dJ2_getChar_3b067_10 : decode cJ2_getChar_3b067 10 = .ok (.iload_n 1, 1) := by decide +kernel
theorem dJ2_getChar_3b067_11 : decode cJ2_getChar_3b067 11 = .ok (.aload_n 0, 1) := by decide +kernel
theorem dJ2_getChar_3b067_12 : decode cJ2_getChar_3b067 12 = .ok (.invokestatic 48, 3) := by decide +kernel
theorem dJ2_getChar_3b067_15 : decode cJ2_getChar_3b067 15 = .ok (.if_icmp .lt 13, 3) := by decide +kernel
theorem dJ2_getChar_3b067_18 : decode cJ2_getChar_3b067 18 = .ok (.new 52, 3) := by decide +kernel
theorem dJ2_getChar_3b067_21 : decode cJ2_getChar_3b067 21 = .ok (.dup, 1) := by decide +kernel
theorem dJ2_getChar_3b067_22 : decode cJ2_getChar_3b067 22 = .ok (.ldc 54, 2) := by decide +kernel
theorem dJ2_getChar_3b067_24 : decode cJ2_getChar_3b067 24 = .ok (.invokespecial 56, 3) := by decide +kernel
theorem dJ2_getChar_3b067_27 : decode cJ2_getChar_3b067 27 = .ok (.athrow, 1) := by decide +kernel
theorem dJ2_getChar_3b067_28 : decode cJ2_getChar_3b067 28 = .ok (.iload_n 1, 1) := by decide +kernel
theorem dJ2_getChar_3b067_29 : decode cJ2_getChar_3b067 29 = .ok (.iconst 1, 1) := by decide +kernel
theorem dJ2_getChar_3b067_30 : decode cJ2_getChar_3b067 30 = .ok (.ishl, 1) := by decide +kernel
theorem dJ2_getChar_3b067_31 : decode cJ2_getChar_3b067 31 = .ok (.istore_n 1, 1) := by decide +kernel
theorem dJ2_getChar_3b067_32 : decode cJ2_getChar_3b067 32 = .ok (.aload_n 0, 1) := by decide +kernel
theorem dJ2_getChar_3b067_33 : decode cJ2_getChar_3b067 33 = .ok (.iload_n 1, 1) := by decide +kernel
theorem dJ2_getChar_3b067_34 : decode cJ2_getChar_3b067 34 = .ok (.iinc 1 1, 3) := by decide +kernel
theorem dJ2_getChar_3b067_37 : decode cJ2_getChar_3b067 37 = .ok (.baload, 1) := by decide +kernel
theorem dJ2_getChar_3b067_38 : decode cJ2_getChar_3b067 38 = .ok (.sipush 255, 3) := by decide +kernel
theorem dJ2_getChar_3b067_41 : decode cJ2_getChar_3b067 41 = .ok (.iand, 1) := by decide +kernel
theorem dJ2_getChar_3b067_42 : decode cJ2_getChar_3b067 42 = .ok (.getstatic 59, 3) := by decide +kernel
theorem dJ2_getChar_3b067_45 : decode cJ2_getChar_3b067 45 = .ok (.ishl, 1) := by decide +kernel
theorem dJ2_getChar_3b067_46 : decode cJ2_getChar_3b067 46 = .ok (.aload_n 0, 1) := by decide +kernel
theorem dJ2_getChar_3b067_47 : decode cJ2_getChar_3b067 47 = .ok (.iload_n 1, 1) := by decide +kernel
theorem dJ2_getChar_3b067_48 : decode cJ2_getChar_3b067 48 = .ok (.baload, 1) := by decide +kernel
theorem dJ2_getChar_3b067_49 : decode cJ2_getChar_3b067 49 = .ok (.sipush 255, 3) := by decide +kernel
theorem dJ2_getChar_3b067_52 : decode cJ2_getChar_3b067 52 = .ok (.iand, 1) := by decide +kernel
theorem dJ2_getChar_3b067_53 : decode cJ2_getChar_3b067 53 = .ok (.getstatic 63, 3) := by decide +kernel
theorem dJ2_getChar_3b067_56 : decode cJ2_getChar_3b067 56 = .ok (.ishl, 1) := by decide +kernel
theorem dJ2_getChar_3b067_57 : decode cJ2_getChar_3b067 57 = .ok (.ior, 1) := by decide +kernel
theorem dJ2_getChar_3b067_58 : decode cJ2_getChar_3b067 58 = .ok (.i2c, 1) := by decide +kernel
theorem dJ2_getChar_3b067_59 : decode cJ2_getChar_3b067 59 = .ok (.ireturn, 1) := by decide +kernel
theorem dJ2_length_9d52b_0 : decode cJ2_length_9d52b 0 = .ok (.aload_n 0, 1) := by decide +kernel
theorem dJ2_length_9d52b_1 : decode cJ2_length_9d52b 1 = .ok (.arraylength, 1) := by decide +kernel
theorem dJ2_length_9d52b_2 : decode cJ2_length_9d52b 2 = .ok (.iconst 1, 1) := by decide +kernel
theorem dJ2_length_9d52b_3 : decode cJ2_length_9d52b 3 = .ok (.ishr, 1) := by decide +kernel
theorem dJ2_length_9d52b_4 : decode cJ2_length_9d52b 4 = .ok (.ireturn, 1) := by decide +kernel
theorem dJ2_charAt_3b067_0 : decode cJ2_charAt_3b067 0 = .ok (.iload_n 1, 1) := by decide +kernel
theorem dJ2_charAt_3b067_1 : decode cJ2_charAt_3b067 1 = .ok (.aload_n 0, 1) := by decide +kernel
theorem dJ2_charAt_3b067_2 : decode cJ2_charAt_3b067 2 = .ok (.invokestatic 67, 3) := by decide +kernel
theorem dJ2_charAt_3b067_5 : decode cJ2_charAt_3b067 5 = .ok (.aload_n 0, 1) := by decide +kernel
theorem dJ2_charAt_3b067_6 : decode cJ2_charAt_3b067 6 = .ok (.iload_n 1, 1) := by decide +kernel
theorem dJ2_charAt_3b067_7 : decode cJ2_charAt_3b067 7 = .ok (.invokestatic 71, 3) := by decide +kernel
theorem dJ2_charAt_3b067_10 : decode cJ2_charAt_3b067 10 = .ok (.ireturn, 1) := by decide +kernel
theorem dJ2_checkIndex_2214a_0 : decode cJ2_checkIndex_2214a 0 = .ok (.iload_n 0, 1) := by decide +kernel
theorem dJ2_checkIndex_2214a_1 : decode cJ2_checkIndex_2214a 1 = .ok (.aload_n 1, 1) := by decide +kernel
theorem dJ2_checkIndex_2214a_2 : decode cJ2_checkIndex_2214a 2 = .ok (.invokestatic 48, 3) := by decide +kernel
theorem dJ2_checkIndex_2214a_5 : decode cJ2_checkIndex_2214a 5 = .ok (.invokestatic 414, 3) := by decide +kernel
theorem dJ2_checkIndex_2214a_8 : decode cJ2_checkIndex_2214a 8 = .ok (.return_, 1) := by decide +kernel
theorem dJ3_checkIndex_8e157_0 : decode cJ3_checkIndex_8e157 0 = .ok (.iload_n 0, 1) := by decide +kernel
theorem dJ3_checkIndex_8e157_1 : decode cJ3_checkIndex_8e157 1 = .ok (.ifCond .lt 8, 3) := by decide +kernel
theorem dJ3_checkIndex_8e157_4 : decode cJ3_checkIndex_8e157 4 = .ok (.iload_n 0, 1) := by decide +kernel
theorem dJ3_checkIndex_8e157_5 : decode cJ3_checkIndex_8e157 5 = .ok (.iload_n 1, 1) := by decide +kernel
theorem dJ3_checkIndex_8e157_6 : decode cJ3_checkIndex_8e157 6 = .ok (.if_icmp .lt 10, 3) := by decide +kernel
theorem dJ3_checkIndex_8e157_9 : decode cJ3_checkIndex_8e157 9 = .ok (.aload_n 2, 1) := by decide +kernel
theorem dJ3_checkIndex_8e157_10 : decode cJ3_checkIndex_8e157 10 = .ok (.iload_n 0, 1) := by decide +kernel
theorem dJ3_checkIndex_8e157_11 : decode cJ3_checkIndex_8e157 11 = .ok (.iload_n 1, 1) := by decide +kernel
theorem dJ3_checkIndex_8e157_12 : decode cJ3_checkIndex_8e157 12 = .ok (.invokestatic 95, 3) := by decide +kernel
theorem dJ3_checkIndex_8e157_15 : decode cJ3_checkIndex_8e157 15 = .ok (.athrow, 1) := by decide +kernel
theorem dJ3_checkIndex_8e157_16 : decode cJ3_checkIndex_8e157 16 = .ok (.iload_n 0, 1) := by decide +kernel
theorem dJ3_checkIndex_8e157_17 : decode cJ3_checkIndex_8e157 17 = .ok (.ireturn, 1) := by decide +kernel

set_option maxRecDepth 100000 in
set_option maxHeartbeats 4000000 in
theorem c_J0_coder_7d493 (l : Launch) (g : xCfg) (i : Nat) (hi : i < 9) : Ct l g yJ0_coder_7d493 cJ0_coder_7d493 1 (some .byte) (xR 0 0) [.ref (g.2.2.2.2.1 i)] [] (is1 (some (.int 0)) []) := by
  refine Ct.walk (by decide) (Nat.le_of_ble_eq_true rfl) ?_
  intro p0 e0 s0 m0 below meth c0 A0 ls Q hQ E hr hnm hw hl
  have hx := E.x
  have hb := E.b
  have hl : lv_has ls 1 [(0, .ref (g.2.2.2.2.1 i))] := hl
  refine va_gets hx hb E.cmp hw.2.2 E.ow (E.ts (.fieldLink RJ0 38 "java/lang/String" "COMPACT_STRINGS" "Z") (wB 666 rfl rfl)) (fun _ h => h) dJ0_coder_7d493_0 ?_
  refine lv_if_eq (tgt := 13) hx hb dJ0_coder_7d493_3 (by decide) (fun h => absurd h (by decide)) (fun _ => ?_)
  refine lv_aload_n hx hb dJ0_coder_7d493_6 rfl (lv_at hl 0 rfl) ?_
  refine vk_getf hx hb (E.str.1 i hi).2.1 hw.2.2 E.ow (E.ts (.fieldLink RJ0 15 "java/lang/String" "coder" "B") (wB 1095 rfl rfl)) (fun _ h => h) dJ0_coder_7d493_7 ?_
  refine lv_goto (tgt := 14) hx hb dJ0_coder_7d493_10 (by decide) ?_
  exact xr_n hQ E hr hw dJ0_coder_7d493_14 rfl ⟨rfl, rfl⟩

set_option maxRecDepth 100000 in
set_option maxHeartbeats 4000000 in
theorem c_J0_isLatin1_aae02 (l : Launch) (g : xCfg) (i : Nat) (hi : i < 9) : Ct l g yJ0_isLatin1_aae02 cJ0_isLatin1_aae02 1 (some .boolean) (xR 0 0) [.ref (g.2.2.2.2.1 i)] [] (is1 (some (.int 1)) []) := by
  refine Ct.walk (by decide) (Nat.le_of_ble_eq_true rfl) ?_
  intro p0 e0 s0 m0 below meth c0 A0 ls Q hQ E hr hnm hw hl
  have hx := E.x
  have hb := E.b
  have hl : lv_has ls 1 [(0, .ref (g.2.2.2.2.1 i))] := hl
  refine va_gets hx hb E.cmp hw.2.2 E.ow (E.ts (.fieldLink RJ0 38 "java/lang/String" "COMPACT_STRINGS" "Z") (wB 666 rfl rfl)) (fun _ h => h) dJ0_isLatin1_aae02_0 ?_
  refine lv_if_eq (tgt := 17) hx hb dJ0_isLatin1_aae02_3 (by decide) (fun h => absurd h (by decide)) (fun _ => ?_)
  refine lv_aload_n hx hb dJ0_isLatin1_aae02_6 rfl (lv_at hl 0 rfl) ?_
  refine vk_getf hx hb (E.str.1 i hi).2.1 hw.2.2 E.ow (E.ts (.fieldLink RJ0 15 "java/lang/String" "coder" "B") (wB 1095 rfl rfl)) (fun _ h => h) dJ0_isLatin1_aae02_7 ?_
  refine lv_if_ne (tgt := 17) hx hb dJ0_isLatin1_aae02_10 (by decide) (fun h => absurd h (by decide)) (fun _ => ?_)
  refine lv_iconst (v := 1) hx hb dJ0_isLatin1_aae02_13 (by decide) ?_
  refine lv_goto (tgt := 18) hx hb dJ0_isLatin1_aae02_14 (by decide) ?_
  exact xr_z hQ E hr hw dJ0_isLatin1_aae02_18 (by decide) ⟨rfl, rfl⟩

set_option maxRecDepth 100000 in
set_option maxHeartbeats 4000000 in
theorem c_J0_length_8abf5 (l : Launch) (g : xCfg) (i : Nat) (hi : i < 9) : Ct l g yJ0_length_8abf5 cJ0_length_8abf5 1 (some .int) (xR 1 20) [.ref (g.2.2.2.2.1 i)] [] (is1 (some (.int (nI (xLen.getD i 0)))) []) := by
  refine Ct.walk (by decide) (Nat.le_of_ble_eq_true rfl) ?_
  intro p0 e0 s0 m0 below meth c0 A0 ls Q hQ E hr hnm hw hl
  have hx := E.x
  have hb := E.b
  have hl : lv_has ls 1 [(0, .ref (g.2.2.2.2.1 i))] := hl
  refine lv_aload_n hx hb dJ0_length_8abf5_0 rfl (lv_at hl 0 rfl) ?_
  refine vk_getf hx hb (E.str.1 i hi).2.2.1 hw.2.2 E.ow (E.ts (.fieldLink RJ0 9 "java/lang/String" "value" "[B") (wB 1094 rfl rfl)) (fun _ h => h) dJ0_length_8abf5_1 ?_
  refine va_tlen (v := nI (xLen.getD i 0)) hx hb (E.str.1 i hi).2.2.2 hw.2.2 rfl dJ0_length_8abf5_4 ?_
  refine lv_aload_n hx hb dJ0_length_8abf5_5 rfl (lv_at hl 0 rfl) ?_
  refine x_go (ws' := []) (st1 := [.int 0, .int (nI (xLen.getD i 0))]) E hw [] rfl (x_runK (i := i) (rest := [.int (nI (xLen.getD i 0))]) E hw (c_J0_coder_7d493 l g i (by omega)) km_J0_335 ki_J0_coder_7d493 (wB 664 rfl rfl) hi [] rfl (by decide) hl.1 rfl rfl (Nat.le_of_ble_eq_true rfl) ⟨Nat.le_of_ble_eq_true rfl, Nat.le_of_ble_eq_true rfl⟩ ⟨Nat.zero_le _, Nat.zero_le _⟩ dJ0_length_8abf5_6) rfl rfl rfl (fun H locs hw => ?_)
  refine lv_ishr hx hb dJ0_length_8abf5_9 ?_
  refine x_top (v' := .int (nI (xLen.getD i 0))) (congrArg Value.int (sb_shr0 _)) ?_
  exact xr_i hQ E hr hw dJ0_length_8abf5_10 ⟨rfl, rfl⟩

set_option maxRecDepth 100000 in
set_option maxHeartbeats 4000000 in
theorem c_J3_checkIndex_n (l : Launch) (g : xCfg) (j : Nat) (z : Nat) (hj : j < z) (hz : z ≤ 6) : Ct l g yJ3_checkIndex_8e157 cJ3_checkIndex_8e157 3 (some .int) (xR 0 0) [.int (nI j), .int (nI z), .null] [] (is1 (some (.int (nI j))) []) := by
  refine Ct.walk (by decide) (Nat.le_of_ble_eq_true rfl) ?_
  intro p0 e0 s0 m0 below meth c0 A0 ls Q hQ E hr hnm hw hl
  have hx := E.x
  have hb := E.b
  have hl : lv_has ls 3 [(0, .int (nI j)), (1, .int (nI z)), (2, .null)] := hl
  refine lv_iload_n hx hb dJ3_checkIndex_8e157_0 rfl (lv_at hl 0 rfl) ?_
  refine lv_if_lt (tgt := 9) hx hb dJ3_checkIndex_8e157_1 (by decide) (fun c_1 => ?_) (fun c_1 => ?_)
  · exact absurd c_1 (nI_pos (by omega))
  · refine lv_iload_n hx hb dJ3_checkIndex_8e157_4 rfl (lv_at hl 0 rfl) ?_
    refine lv_iload_n hx hb dJ3_checkIndex_8e157_5 rfl (lv_at hl 1 rfl) ?_
    refine xn_lt (tgt := 16) hx hb j z rfl rfl (by omega) (by omega) dJ3_checkIndex_8e157_6 (by decide) (fun c_1 => ?_) (fun c_1 => ?_)
    · refine lv_iload_n hx hb dJ3_checkIndex_8e157_16 rfl (lv_at hl 0 rfl) ?_
      exact xr_i hQ E hr hw dJ3_checkIndex_8e157_17 ⟨rfl, rfl⟩
    · exact absurd c_1 (by omega)

set_option maxRecDepth 100000 in
set_option maxHeartbeats 4000000 in
theorem c_J3_checkIndex_r (l : Launch) (g : xCfg) (j : Nat) (z : Nat) (u : Nat) (hj : j < z) (hz : z ≤ 6) : Ct l g yJ3_checkIndex_8e157 cJ3_checkIndex_8e157 3 (some .int) (xR 0 0) [.int (nI j), .int (nI z), .ref u] [] (is1 (some (.int (nI j))) []) := by
  refine Ct.walk (by decide) (Nat.le_of_ble_eq_true rfl) ?_
  intro p0 e0 s0 m0 below meth c0 A0 ls Q hQ E hr hnm hw hl
  have hx := E.x
  have hb := E.b
  have hl : lv_has ls 3 [(0, .int (nI j)), (1, .int (nI z)), (2, .ref u)] := hl
  refine lv_iload_n hx hb dJ3_checkIndex_8e157_0 rfl (lv_at hl 0 rfl) ?_
  refine lv_if_lt (tgt := 9) hx hb dJ3_checkIndex_8e157_1 (by decide) (fun c_1 => ?_) (fun c_1 => ?_)
  · exact absurd c_1 (nI_pos (by omega))
  · refine lv_iload_n hx hb dJ3_checkIndex_8e157_4 rfl (lv_at hl 0 rfl) ?_
    refine lv_iload_n hx hb dJ3_checkIndex_8e157_5 rfl (lv_at hl 1 rfl) ?_
    refine xn_lt (tgt := 16) hx hb j z rfl rfl (by omega) (by omega) dJ3_checkIndex_8e157_6 (by decide) (fun c_1 => ?_) (fun c_1 => ?_)
    · refine lv_iload_n hx hb dJ3_checkIndex_8e157_16 rfl (lv_at hl 0 rfl) ?_
      exact xr_i hQ E hr hw dJ3_checkIndex_8e157_17 ⟨rfl, rfl⟩
    · exact absurd c_1 (by omega)

set_option maxRecDepth 100000 in
set_option maxHeartbeats 4000000 in
theorem c_J0_checkIndex_df160 (l : Launch) (g : xCfg) (j : Nat) (z : Nat) (hj : j < z) (hz : z ≤ 6) : Ct l g yJ0_checkIndex_df160 cJ0_checkIndex_df160 2 none (xR 1 22) [.int (nI j), .int (nI z)] [] (is1 none []) := by
  refine Ct.walk (by decide) (Nat.le_of_ble_eq_true rfl) ?_
  intro p0 e0 s0 m0 below meth c0 A0 ls Q hQ E hr hnm hw hl
  have hx := E.x
  have hb := E.b
  have hl : lv_has ls 2 [(0, .int (nI j)), (1, .int (nI z))] := hl
  refine lv_iload_n hx hb dJ0_checkIndex_df160_0 rfl (lv_at hl 0 rfl) ?_
  refine lv_iload_n hx hb dJ0_checkIndex_df160_1 rfl (lv_at hl 1 rfl) ?_
  rcases E.sio with hz1 | ⟨u, hz1⟩
  · refine va_gets hx hb hz1 hw.2.2 E.ow (E.ts (.fieldLink RJ0 1053 "jdk/internal/util/Preconditions" "SIOOBE_FORMATTER" "Ljava/util/function/BiFunction;") (wB 682 rfl rfl)) (fun _ h => h) dJ0_checkIndex_df160_2 ?_
    refine x_go (ws' := []) (st1 := [.int (nI j)]) E hw [] rfl (x_runS (rest := []) E hw (c_J3_checkIndex_n l g j z (by omega) (by omega)) km_J0_1059 ks_J3_checkIndex_8e157 [] rfl (by decide) hl.1 rfl rfl (Nat.le_of_ble_eq_true rfl) ⟨Nat.le_of_ble_eq_true rfl, Nat.le_of_ble_eq_true rfl⟩ ⟨Nat.zero_le _, Nat.zero_le _⟩ dJ0_checkIndex_df160_5) rfl rfl rfl (fun H locs hw => ?_)
    refine lv_pop hx hb dJ0_checkIndex_df160_8 rfl ?_
    exact xr_v hQ E hr hw dJ0_checkIndex_df160_9 ⟨rfl, rfl⟩
  · refine va_gets hx hb hz1 hw.2.2 E.ow (E.ts (.fieldLink RJ0 1053 "jdk/internal/util/Preconditions" "SIOOBE_FORMATTER" "Ljava/util/function/BiFunction;") (wB 682 rfl rfl)) (fun _ h => h) dJ0_checkIndex_df160_2 ?_
    refine x_go (ws' := []) (st1 := [.int (nI j)]) E hw [] rfl (x_runS (rest := []) E hw (c_J3_checkIndex_r l g j z u (by omega) (by omega)) km_J0_1059 ks_J3_checkIndex_8e157 [] rfl (by decide) hl.1 rfl rfl (Nat.le_of_ble_eq_true rfl) ⟨Nat.le_of_ble_eq_true rfl, Nat.le_of_ble_eq_true rfl⟩ ⟨Nat.zero_le _, Nat.zero_le _⟩ dJ0_checkIndex_df160_5) rfl rfl rfl (fun H locs hw => ?_)
    refine lv_pop hx hb dJ0_checkIndex_df160_8 rfl ?_
    exact xr_v hQ E hr hw dJ0_checkIndex_df160_9 ⟨rfl, rfl⟩

set_option maxRecDepth 100000 in
set_option maxHeartbeats 4000000 in
theorem c_J1_charAt_3b067 (l : Launch) (g : xCfg) (i : Nat) (j : Nat) (hi : i < 9) (hj : j < xLen.getD i 0) : Ct l g yJ1_charAt_3b067 cJ1_charAt_3b067 2 (some .char) (xR 2 43) [.ref (g.2.2.2.2.2 i), .int (nI j)] [] (is1 (some (.int (chr i j))) []) := by
  refine Ct.walk (by decide) (Nat.le_of_ble_eq_true rfl) ?_
  intro p0 e0 s0 m0 below meth c0 A0 ls Q hQ E hr hnm hw hl
  have hx := E.x
  have hb := E.b
  have hl : lv_has ls 2 [(0, .ref (g.2.2.2.2.2 i)), (1, .int (nI j))] := hl
  refine lv_iload_n hx hb dJ1_charAt_3b067_0 rfl (lv_at hl 1 rfl) ?_
  refine lv_aload_n hx hb dJ1_charAt_3b067_1 rfl (lv_at hl 0 rfl) ?_
  refine va_tlen (v := nI (xLen.getD i 0)) hx hb (E.str.1 i hi).2.2.2 hw.2.2 rfl dJ1_charAt_3b067_2 ?_
  refine x_go (ws' := []) (st1 := []) E hw [] rfl (x_runS (rest := []) E hw (c_J0_checkIndex_df160 l g j (xLen.getD i 0) (by omega) (xLen_le i hi)) km_J1_9 ks_J0_checkIndex_df160 [] rfl (by decide) hl.1 rfl rfl (Nat.le_of_ble_eq_true rfl) ⟨Nat.le_of_ble_eq_true rfl, Nat.le_of_ble_eq_true rfl⟩ ⟨Nat.zero_le _, Nat.zero_le _⟩ dJ1_charAt_3b067_3) rfl rfl rfl (fun H locs hw => ?_)
  refine lv_aload_n hx hb dJ1_charAt_3b067_6 rfl (lv_at hl 0 rfl) ?_
  refine lv_iload_n hx hb dJ1_charAt_3b067_7 rfl (lv_at hl 1 rfl) ?_
  refine va_tb (v := .int (chr i j)) hx hb (E.str.1 i hi).2.2.2 hw.2.2 (vp_in_nI hj (by have := xLen_le i hi; omega)) (by rw [nI_clamp (by have := xLen_le i hi; omega)]; rfl) dJ1_charAt_3b067_8 ?_
  refine lv_sipush (v := 255) hx hb dJ1_charAt_3b067_9 (by decide) ?_
  refine lv_iand hx hb dJ1_charAt_3b067_12 ?_
  refine lv_i2c (v := chr i j) hx hb dJ1_charAt_3b067_13 (chr_ok i hi j hj).1 ?_
  exact xr_n hQ E hr hw dJ1_charAt_3b067_14 (chr_ok i hi j hj).2 ⟨rfl, rfl⟩

set_option maxRecDepth 100000 in
set_option maxHeartbeats 4000000 in
theorem c_J0_charAt_5068e (l : Launch) (g : xCfg) (i : Nat) (j : Nat) (hi : i < 9) (hj : j < xLen.getD i 0) : Ct l g yJ0_charAt_5068e cJ0_charAt_5068e 2 (some .char) (xR 3 64) [.ref (g.2.2.2.2.1 i), .int (nI j)] [] (is1 (some (.int (chr i j))) []) := by
  refine Ct.walk (by decide) (Nat.le_of_ble_eq_true rfl) ?_
  intro p0 e0 s0 m0 below meth c0 A0 ls Q hQ E hr hnm hw hl
  have hx := E.x
  have hb := E.b
  have hl : lv_has ls 2 [(0, .ref (g.2.2.2.2.1 i)), (1, .int (nI j))] := hl
  refine lv_aload_n hx hb dJ0_charAt_5068e_0 rfl (lv_at hl 0 rfl) ?_
  refine x_go (ws' := []) (st1 := [.int 1]) E hw [] rfl (x_runK (i := i) (rest := []) E hw (c_J0_isLatin1_aae02 l g i (by omega)) km_J0_492 ki_J0_isLatin1_aae02 (wB 674 rfl rfl) hi [] rfl (by decide) hl.1 rfl rfl (Nat.le_of_ble_eq_true rfl) ⟨Nat.le_of_ble_eq_true rfl, Nat.le_of_ble_eq_true rfl⟩ ⟨Nat.zero_le _, Nat.zero_le _⟩ dJ0_charAt_5068e_1) rfl rfl rfl (fun H locs hw => ?_)
  refine lv_if_eq (tgt := 16) hx hb dJ0_charAt_5068e_4 (by decide) (fun h => absurd h (by decide)) (fun _ => ?_)
  refine lv_aload_n hx hb dJ0_charAt_5068e_7 rfl (lv_at hl 0 rfl) ?_
  refine vk_getf hx hb (E.str.1 i hi).2.2.1 hw.2.2 E.ow (E.ts (.fieldLink RJ0 9 "java/lang/String" "value" "[B") (wB 1094 rfl rfl)) (fun _ h => h) dJ0_charAt_5068e_8 ?_
  refine lv_iload_n hx hb dJ0_charAt_5068e_11 rfl (lv_at hl 1 rfl) ?_
  refine x_go (ws' := []) (st1 := [.int (chr i j)]) E hw [] rfl (x_runS (rest := []) E hw (c_J1_charAt_3b067 l g i j (by omega) (by omega)) km_J0_495 ks_J1_charAt_3b067 [] rfl (by decide) hl.1 rfl rfl (Nat.le_of_ble_eq_true rfl) ⟨Nat.le_of_ble_eq_true rfl, Nat.le_of_ble_eq_true rfl⟩ ⟨Nat.zero_le _, Nat.zero_le _⟩ dJ0_charAt_5068e_12) rfl rfl rfl (fun H locs hw => ?_)
  exact xr_n hQ E hr hw dJ0_charAt_5068e_15 (chr_ok i hi j hj).2 ⟨rfl, rfl⟩
