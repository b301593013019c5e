/-! the methods in normal form, what the tables say of them (printed by wip/whole/gen07b.py) -/
theorem zt_ix {w : Cond} (i : Nat) (h : tables_1[i]? = some w) (hg : goodWord w = true) : w ∈ zt := List.mem_filter.mpr ⟨List.mem_append_right _ (List.mem_of_getElem? h), hg⟩
def qL_cell : List (Nat × Nat × Instr) := [(0, 1, .iload 1), (1, 2, .aload 0), (2, 3, .arraylength), (3, 6, .if_icmp .ge 12), (6, 7, .aload 0), (7, 8, .iload 1), (8, 9, .iaload), (9, 12, .goto 20), (12, 14, .ldc 7), (14, 15, .iload 1), (15, 18, .iconst (1487)), (18, 19, .iadd), (19, 20, .imul), (20, 21, .ireturn)]
theorem kL_cell : zchk cL_cell qL_cell = true := by decide +kernel
theorem vL_cell : zcS yL_cell cL_cell 2 (some .int) 2 := ⟨by decide +kernel, by decide +kernel, zt_ix 124 rfl rfl, by decide +kernel⟩
def qL_up : List (Nat × Nat × Instr) := [(0, 1, .iload 0), (1, 3, .ldc 8), (3, 4, .iand), (4, 5, .iload 1), (5, 6, .irem), (6, 7, .ireturn)]
theorem kL_up : zchk cL_up qL_up = true := by decide +kernel
theorem vL_up : zcS yL_up cL_up 2 (some .int) 2 := ⟨by decide +kernel, by decide +kernel, zt_ix 183 rfl rfl, by decide +kernel⟩
def qL_next : List (Nat × Nat × Instr) := [(0, 1, .iload 0), (1, 4, .ifCond .lt 9), (4, 5, .iload 0), (5, 6, .iconst 2), (6, 9, .if_icmp .le 13), (9, 10, .iload 0), (10, 13, .goto 18), (13, 14, .iload 0), (14, 15, .iconst 1), (15, 16, .iadd), (16, 17, .iconst 3), (17, 18, .irem), (18, 19, .ireturn)]
theorem kL_next : zchk cL_next qL_next = true := by decide +kernel
theorem vL_next : zcS yL_next cL_next 1 (some .int) 1 := ⟨by decide +kernel, by decide +kernel, zt_ix 248 rfl rfl, by decide +kernel⟩
def qL_bits : List (Nat × Nat × Instr) := [(0, 1, .iconst 0), (1, 2, .istore 1), (2, 3, .iconst 0), (3, 4, .istore 2), (4, 5, .iload 2), (5, 6, .iconst 5), (6, 9, .if_icmp .ge 23), (9, 10, .iload 1), (10, 11, .iload 0), (11, 12, .iload 2), (12, 13, .ishr), (13, 14, .iconst 1), (14, 15, .iand), (15, 16, .iadd), (16, 17, .istore 1), (17, 20, .iinc 2 (1)), (20, 23, .goto 4), (23, 24, .iload 1), (24, 25, .ireturn)]
theorem kL_bits : zchk cL_bits qL_bits = true := by decide +kernel
theorem vL_bits : zcS yL_bits cL_bits 3 (some .int) 1 := ⟨by decide +kernel, by decide +kernel, zt_ix 477 rfl rfl, by decide +kernel⟩
def qL_put : List (Nat × Nat × Instr) := [(0, 1, .aload 0), (1, 3, .iconst (48)), (3, 4, .iload 1), (4, 5, .iadd), (5, 6, .i2l), (6, 9, .invokevirtual 9), (9, 12, .ifCond .le 74), (12, 13, .aload 0), (13, 15, .iconst (48)), (15, 16, .iload 2), (16, 17, .iadd), (17, 18, .i2l), (18, 21, .invokevirtual 9), (21, 24, .ifCond .le 74), (24, 25, .aload 0), (25, 26, .iload 3), (26, 29, .ifCond .ne 35), (29, 32, .ldc2_w 15), (32, 35, .goto 49), (35, 36, .iload 3), (36, 37, .iconst 1), (37, 40, .if_icmp .ne 46), (40, 43, .ldc2_w 17), (43, 46, .goto 49), (46, 49, .ldc2_w 19), (49, 52, .invokevirtual 9), (52, 55, .ifCond .le 74), (55, 57, .iload 4), (57, 60, .ifCond .eq 70), (60, 61, .aload 0), (61, 64, .ldc2_w 21), (64, 67, .invokevirtual 9), (67, 70, .ifCond .le 74), (70, 71, .iconst 1), (71, 74, .goto 75), (74, 75, .iconst 0), (75, 76, .ireturn)]
theorem kL_put : zchk cL_put qL_put = true := by decide +kernel
theorem vL_put : zcS yL_put cL_put 5 (some .boolean) 5 := ⟨by decide +kernel, by decide +kernel, zt_ix 309 rfl rfl, by decide +kernel⟩
def qL_bits6 : List (Nat × Nat × Instr) := [(0, 1, .iload 0), (1, 4, .invokestatic 103), (4, 5, .iload 0), (5, 6, .iconst 5), (6, 7, .ishr), (7, 8, .iconst 1), (8, 9, .iand), (9, 10, .iadd), (10, 11, .ireturn)]
theorem kL_bits6 : zchk cL_bits6 qL_bits6 = true := by decide +kernel
theorem vL_bits6 : zcS yL_bits6 cL_bits6 1 (some .int) 1 := ⟨by decide +kernel, by decide +kernel, zt_ix 474 rfl rfl, by decide +kernel⟩
theorem lk5_9 : Cond.methodLink (zcn 5) 9 yX3_put ∈ zt := by decide +kernel
theorem lk5_103 : Cond.methodLink (zcn 5) 103 yL_bits ∈ zt := by decide +kernel
