/-! THE METHODS: each as blocks of instructions; printed by a program (wip/tools/gen_names.py) -/
/-- WashLineLaw.law([I)Z -/
def am_b0 : List (List am_I) := [[(.new 10, [9], 0), (.dup, [], 0), (.invokespecial 63, [1, 1], 1), (.astore_n 1, [], 0), (.bipush 6, [], 0), (.newarray .int, [], 0), (.astore_n 2, [], 0), (.bipush 24, [], 0), (.newarray .int, [], 0), (.astore_n 3, [], 0), (.bipush 24, [], 0), (.newarray .int, [], 0), (.astore 4, [], 0), (.bipush 6, [], 0), (.newarray .int, [], 0), (.astore 5, [], 0), (.aload_n 1, [], 0), (.aload_n 0, [], 0), (.iconst 0, [], 0), (.iconst 3, [], 0), (.aload_n 2, [], 0), (.aload_n 3, [], 0), (.aload 4, [], 0), (.aload 5, [], 0), (.invokestatic 64, [175, 8], 8), (.istore 6, [], 0), (.bipush 40, [], 0), (.newarray .int, [], 0), (.astore 7, [], 0), (.iload 6, [], 0), (.ifCond .ge 7, [1], 0), (.iconst (-1), [], 0), (.goto 20, [2], 0)],
  [(.aload_n 1, [], 0), (.aload_n 0, [], 0), (.bipush 8, [], 0), (.iconst 4, [], 0), (.iload 6, [], 0), (.aload_n 3, [], 0), (.aload 4, [], 0), (.aload 5, [], 0), (.aload 7, [], 0), (.invokestatic 67, [177, 9], 9), (.nop, [2], 0)],
  [(.istore 8, [], 0), (.iload 8, [], 0), (.ifCond .ge 5, [3], 0), (.iconst 0, [], 0), (.ireturn, [1], 0)],
  [(.iload 6, [], 0), (.invokestatic 39, [176, 1], 1), (.astore 9, [], 0), (.aload 9, [], 0), (.bipush 63, [], 0), (.iaload, [], 0), (.istore 10, [], 0), (.iconst 0, [], 0), (.istore 11, [], 0), (.nop, [4], 0)],
  [(.iload 11, [], 0), (.bipush 8, [], 0), (.if_icmp .ge 412, [19], 0), (.aload 9, [], 0), (.aload_n 0, [], 0), (.bipush 14, [], 0), (.iload 11, [], 0), (.iadd, [], 0), (.invokestatic 15, [173, 2], 2), (.iload 10, [], 0), (.invokestatic 21, [172, 2], 2), (.iaload, [], 0), (.istore 12, [], 0), (.aload 9, [], 0), (.aload_n 0, [], 0), (.bipush 14, [], 0), (.iload 11, [], 0), (.iadd, [], 0), (.invokestatic 15, [173, 2], 2), (.bipush 7, [], 0), (.ishr, [], 0), (.iload 10, [], 0), (.invokestatic 21, [172, 2], 2), (.iaload, [], 0), (.istore 13, [], 0), (.aload 9, [], 0), (.aload_n 0, [], 0), (.bipush 14, [], 0), (.iload 11, [], 0), (.iadd, [], 0), (.invokestatic 15, [173, 2], 2), (.bipush 13, [], 0), (.ishr, [], 0), (.iload 10, [], 0), (.invokestatic 21, [172, 2], 2), (.iaload, [], 0), (.istore 14, [], 0), (.aload_n 1, [], 0), (.iload 12, [], 0), (.iload 13, [], 0), (.invokevirtual 71, [92, 3, 9], 3), (.istore 15, [], 0), (.iload 15, [], 0), (.ifCond .lt 106, [5], 0), (.aload_n 1, [], 0), (.iload 12, [], 0), (.iload 12, [], 0), (.invokevirtual 71, [92, 3, 9], 3), (.ifCond .ne 95, [5], 0), (.iload 15, [], 0), (.aload_n 1, [], 0), (.iload 12, [], 0), (.iload 14, [], 0), (.invokevirtual 71, [92, 3, 9], 3), (.aload_n 1, [], 0), (.iload 14, [], 0), (.iload 13, [], 0), (.invokevirtual 71, [92, 3, 9], 3), (.iadd, [], 0), (.if_icmp .gt 73, [5], 0), (.aload_n 1, [], 0), (.iconst 0, [], 0), (.iload 13, [], 0), (.invokevirtual 71, [92, 3, 9], 3), (.iload 13, [], 0), (.bipush 10, [], 0), (.irem, [], 0), (.iload 13, [], 0), (.bipush 10, [], 0), (.idiv, [], 0), (.bipush 10, [], 0), (.irem, [], 0), (.iadd, [], 0), (.iload 13, [], 0), (.bipush 100, [], 0), (.idiv, [], 0), (.iadd, [], 0), (.aload 5, [], 0), (.iconst 1, [], 0), (.iaload, [], 0), (.imul, [], 0), (.if_icmp .gt 38, [5], 0), (.aload_n 1, [], 0), (.iload 13, [], 0), (.iconst 0, [], 0), (.invokevirtual 71, [92, 3, 9], 3), (.iload 13, [], 0), (.bipush 10, [], 0), (.irem, [], 0), (.iload 13, [], 0), (.bipush 10, [], 0), (.idiv, [], 0), (.bipush 10, [], 0), (.irem, [], 0), (.iadd, [], 0), (.iload 13, [], 0), (.bipush 100, [], 0), (.idiv, [], 0), (.iadd, [], 0), (.aload 5, [], 0), (.iconst 2, [], 0), (.iaload, [], 0), (.imul, [], 0), (.if_icmp .le 5, [6], 0), (.nop, [5], 0)],
  [(.iconst 0, [], 0), (.ireturn, [1], 0)],
  [(.aload_n 0, [], 0), (.bipush 14, [], 0), (.iload 11, [], 0), (.iadd, [], 0), (.invokestatic 15, [173, 2], 2), (.bipush 19, [], 0), (.ishr, [], 0), (.iload 8, [], 0), (.invokestatic 21, [172, 2], 2), (.istore 16, [], 0), (.aload_n 1, [], 0), (.iload 16, [], 0), (.iload 12, [], 0), (.invokevirtual 74, [73, 3, 9], 3), (.istore 17, [], 0), (.aload_n 1, [], 0), (.invokevirtual 9, [158, 1, 9], 1), (.istore 18, [], 0), (.aload_n 1, [], 0), (.iload 16, [], 0), (.iload 12, [], 0), (.invokevirtual 77, [82, 3, 9], 3), (.istore 19, [], 0), (.aload_n 1, [], 0), (.invokevirtual 9, [158, 1, 9], 1), (.istore 20, [], 0), (.iload 19, [], 0), (.ifCond .ne 12, [7], 0), (.iload 20, [], 0), (.ifCond .ne 7, [7], 0), (.iconst 1, [], 0), (.goto 4, [8], 0)],
  [(.iconst 0, [], 0), (.nop, [8], 0)],
  [(.iload 17, [], 0), (.ifCond .ne 12, [9], 0), (.iload 18, [], 0), (.ifCond .ne 7, [9], 0), (.iconst 1, [], 0), (.goto 4, [10], 0)],
  [(.iconst 0, [], 0), (.nop, [10], 0)],
  [(.if_icmp .ne 36, [13], 0), (.iload 19, [], 0), (.iload 20, [], 0), (.iand, [], 0), (.ifCond .ne 28, [13], 0), (.iload 17, [], 0), (.ifCond .le 25, [14], 0), (.iload 17, [], 0), (.aload 5, [], 0), (.iload 18, [], 0), (.bipush 20, [], 0), (.if_icmp .ge 7, [11], 0), (.iconst 4, [], 0), (.goto 4, [12], 0)],
  [(.iconst 5, [], 0), (.nop, [12], 0)],
  [(.iaload, [], 0), (.if_icmp .eq 5, [14], 0), (.nop, [13], 0)],
  [(.iconst 0, [], 0), (.ireturn, [1], 0)],
  [(.aload_n 0, [], 0), (.bipush 14, [], 0), (.iload 11, [], 0), (.iadd, [], 0), (.invokestatic 15, [173, 2], 2), (.bipush 21, [], 0), (.ishr, [], 0), (.bipush 8, [], 0), (.invokestatic 21, [172, 2], 2), (.istore 21, [], 0), (.aload_n 1, [], 0), (.iload 12, [], 0), (.iconst 0, [], 0), (.iload 21, [], 0), (.invokevirtual 80, [70, 4, 9], 4), (.istore 22, [], 0), (.aload_n 1, [], 0), (.invokevirtual 9, [158, 1, 9], 1), (.istore 23, [], 0), (.aload_n 1, [], 0), (.iload 12, [], 0), (.iconst 1, [], 0), (.iload 21, [], 0), (.invokevirtual 80, [70, 4, 9], 4), (.istore 24, [], 0), (.iload 22, [], 0), (.ifCond .lt 50, [17], 0), (.iload 23, [], 0), (.iload 22, [], 0), (.if_icmp .lt 43, [17], 0), (.iload 24, [], 0), (.iload 22, [], 0), (.if_icmp .gt 36, [17], 0), (.aload_n 1, [], 0), (.invokevirtual 9, [158, 1, 9], 1), (.iload 23, [], 0), (.if_icmp .ne 27, [17], 0), (.iload 24, [], 0), (.aload_n 1, [], 0), (.invokevirtual 83, [59, 1, 9], 1), (.iload 21, [], 0), (.ishr, [], 0), (.iconst 1, [], 0), (.iand, [], 0), (.iconst 1, [], 0), (.if_icmp .ne 7, [15], 0), (.iconst 0, [], 0), (.goto 5, [16], 0)],
  [(.iload 22, [], 0), (.nop, [16], 0)],
  [(.if_icmp .eq 5, [18], 0), (.nop, [17], 0)],
  [(.iconst 0, [], 0), (.ireturn, [1], 0)],
  [(.iinc 11 1, [], 0), (.goto (-413), [4], 0)],
  [(.iconst 0, [], 0), (.istore 11, [], 0), (.nop, [20], 0)],
  [(.iload 11, [], 0), (.iload 8, [], 0), (.if_icmp .ge 124, [27], 0), (.aload_n 1, [], 0), (.iload 11, [], 0), (.invokevirtual 86, [85, 2, 9], 2), (.istore 12, [], 0), (.aload_n 1, [], 0), (.invokevirtual 9, [158, 1, 9], 1), (.istore 13, [], 0), (.aload_n 1, [], 0), (.iload 11, [], 0), (.invokevirtual 89, [87, 2, 9], 2), (.istore 14, [], 0), (.iload 12, [], 0), (.ifCond .lt 39, [22], 0), (.iload 14, [], 0), (.ifCond .lt 32, [21], 0), (.iload 14, [], 0), (.iload 12, [], 0), (.if_icmp .gt 25, [21], 0), (.aload_n 1, [], 0), (.iload 11, [], 0), (.iload 13, [], 0), (.invokevirtual 74, [73, 3, 9], 3), (.ifCond .ne 14, [21], 0), (.aload_n 1, [], 0), (.iload 11, [], 0), (.iconst 0, [], 0), (.invokevirtual 92, [90, 3, 9], 3), (.iconst 1, [], 0), (.if_icmp .ge 5, [22], 0), (.nop, [21], 0)],
  [(.iconst 0, [], 0), (.ireturn, [1], 0)],
  [(.iconst 1, [], 0), (.istore 15, [], 0), (.nop, [23], 0)],
  [(.iload 15, [], 0), (.bipush 10, [], 0), (.if_icmp .ge 45, [26], 0), (.aload_n 1, [], 0), (.iload 11, [], 0), (.iload 15, [], 0), (.invokevirtual 92, [90, 3, 9], 3), (.aload_n 1, [], 0), (.iload 11, [], 0), (.iload 15, [], 0), (.iconst 1, [], 0), (.isub, [], 0), (.invokevirtual 92, [90, 3, 9], 3), (.if_icmp .lt 16, [24], 0), (.aload_n 1, [], 0), (.iload 11, [], 0), (.iload 15, [], 0), (.invokevirtual 92, [90, 3, 9], 3), (.iload 10, [], 0), (.if_icmp .le 5, [25], 0), (.nop, [24], 0)],
  [(.iconst 0, [], 0), (.ireturn, [1], 0)],
  [(.iinc 15 1, [], 0), (.goto (-46), [23], 0)],
  [(.iinc 11 1, [], 0), (.goto (-125), [20], 0)],
  [(.aload_n 1, [], 0), (.invokevirtual 95, [101, 1, 9], 1), (.istore 11, [], 0), (.aload_n 1, [], 0), (.iconst 1, [], 0), (.invokevirtual 98, [114, 2, 9], 2), (.istore 12, [], 0), (.iload 11, [], 0), (.ifCond .lt 7, [28], 0), (.iconst 1, [], 0), (.goto 4, [29], 0)],
  [(.iconst 0, [], 0), (.nop, [29], 0)],
  [(.iload 12, [], 0), (.iload 8, [], 0), (.if_icmp .ne 7, [30], 0), (.iconst 1, [], 0), (.goto 4, [31], 0)],
  [(.iconst 0, [], 0), (.nop, [31], 0)],
  [(.if_icmp .eq 5, [32], 0), (.iconst 0, [], 0), (.ireturn, [1], 0)],
  [(.iconst 0, [], 0), (.istore 13, [], 0), (.iconst 0, [], 0), (.istore 14, [], 0), (.iconst 0, [], 0), (.istore 15, [], 0), (.nop, [33], 0)],
  [(.iload 15, [], 0), (.iload 8, [], 0), (.if_icmp .ge 125, [38], 0), (.iload 11, [], 0), (.ifCond .lt 120, [38], 0), (.aload_n 1, [], 0), (.aload_n 1, [], 0), (.iconst 1, [], 0), (.iload 15, [], 0), (.invokevirtual 101, [31, 3, 9], 3), (.invokestatic 104, [174, 2], 2), (.istore 16, [], 0), (.aload_n 1, [], 0), (.iload 15, [], 0), (.iload 16, [], 0), (.invokevirtual 74, [73, 3, 9], 3), (.istore 17, [], 0), (.iload 17, [], 0), (.ifCond .ge 5, [34], 0), (.iconst 0, [], 0), (.ireturn, [1], 0)],
  [(.iload 14, [], 0), (.aload_n 1, [], 0), (.iload 13, [], 0), (.iload 16, [], 0), (.invokevirtual 71, [92, 3, 9], 3), (.iload 17, [], 0), (.iadd, [], 0), (.iadd, [], 0), (.istore 14, [], 0), (.iload 16, [], 0), (.istore 13, [], 0), (.aload_n 1, [], 0), (.iload 15, [], 0), (.invokevirtual 108, [128, 2, 9], 2), (.istore 18, [], 0), (.aload_n 1, [], 0), (.invokevirtual 9, [158, 1, 9], 1), (.istore 19, [], 0), (.iload 18, [], 0), (.ifCond .lt 30, [35], 0), (.iload 18, [], 0), (.iload 11, [], 0), (.if_icmp .lt 36, [36], 0), (.iload 19, [], 0), (.iload 16, [], 0), (.if_icmp .eq 29, [36], 0), (.aload_n 1, [], 0), (.iload 15, [], 0), (.iload 19, [], 0), (.invokevirtual 111, [127, 3, 9], 3), (.iload 18, [], 0), (.if_icmp .ne 16, [36], 0), (.nop, [35], 0)],
  [(.aload_n 1, [], 0), (.iload 15, [], 0), (.iload 16, [], 0), (.invokevirtual 111, [127, 3, 9], 3), (.iload 11, [], 0), (.if_icmp .eq 5, [37], 0), (.nop, [36], 0)],
  [(.iconst 0, [], 0), (.ireturn, [1], 0)],
  [(.iinc 15 1, [], 0), (.goto (-126), [33], 0)],
  [(.iload 11, [], 0), (.ifCond .lt 12, [39], 0), (.iload 14, [], 0), (.iload 11, [], 0), (.if_icmp .eq 5, [39], 0), (.iconst 0, [], 0), (.ireturn, [1], 0)],
  [(.aload_n 1, [], 0), (.invokevirtual 114, [115, 1, 9], 1), (.istore 15, [], 0), (.iload 15, [], 0), (.iconst 1, [], 0), (.if_icmp .ne 185, [46], 0), (.iload 11, [], 0), (.ifCond .lt 180, [46], 0), (.aload_n 1, [], 0), (.invokevirtual 117, [159, 1, 9], 1), (.lstore 16, [], 0), (.aload_n 0, [], 0), (.bipush 22, [], 0), (.invokestatic 15, [173, 2], 2), (.iload 8, [], 0), (.invokestatic 21, [172, 2], 2), (.istore 18, [], 0), (.aload_n 0, [], 0), (.bipush 22, [], 0), (.invokestatic 15, [173, 2], 2), (.iconst 3, [], 0), (.ishr, [], 0), (.iload 6, [], 0), (.invokestatic 21, [172, 2], 2), (.istore 19, [], 0), (.aload_n 1, [], 0), (.iload 18, [], 0), (.iload 19, [], 0), (.invokevirtual 121, [120, 3, 9], 3), (.istore 20, [], 0), (.aload_n 1, [], 0), (.invokevirtual 9, [158, 1, 9], 1), (.istore 21, [], 0), (.lconst 0, [], 0), (.lstore 22, [], 0), (.iconst 0, [], 0), (.istore 24, [], 0), (.nop, [40], 0)],
  [(.iload 24, [], 0), (.bipush 6, [], 0), (.if_icmp .ge 100, [44], 0), (.aload_n 1, [], 0), (.iload 18, [], 0), (.iload 19, [], 0), (.iload 24, [], 0), (.invokevirtual 124, [123, 4, 9], 4), (.iconst 1, [], 0), (.if_icmp .ne 61, [42], 0), (.lload 16, [], 0), (.aload_n 1, [], 0), (.invokevirtual 127, [161, 1, 9], 1), (.lrem, [], 0), (.lconst 0, [], 0), (.lcmp, [], 0), (.ifCond .ne 49, [42], 0), (.aload_n 1, [], 0), (.invokevirtual 130, [160, 1, 9], 1), (.lconst 0, [], 0), (.lcmp, [], 0), (.ifCond .le 17, [41], 0), (.iload 24, [], 0), (.iload 20, [], 0), (.if_icmp .lt 33, [42], 0), (.iload 24, [], 0), (.iload 21, [], 0), (.if_icmp .gt 26, [42], 0), (.nop, [41], 0)],
  [(.aload_n 1, [], 0), (.invokevirtual 130, [160, 1, 9], 1), (.lconst 0, [], 0), (.lcmp, [], 0), (.ifCond .ne 19, [43], 0), (.iload 24, [], 0), (.iload 20, [], 0), (.if_icmp .eq 10, [42], 0), (.iload 24, [], 0), (.iload 21, [], 0), (.if_icmp .ne 5, [43], 0), (.nop, [42], 0)],
  [(.iconst 0, [], 0), (.ireturn, [1], 0)],
  [(.lload 22, [], 0), (.aload_n 1, [], 0), (.invokevirtual 130, [160, 1, 9], 1), (.lload 16, [], 0), (.aload_n 1, [], 0), (.invokevirtual 127, [161, 1, 9], 1), (.ldiv, [], 0), (.lmul, [], 0), (.ladd, [], 0), (.lstore 22, [], 0), (.iinc 24 1, [], 0), (.goto (-101), [40], 0)],
  [(.lload 22, [], 0), (.lload 16, [], 0), (.lcmp, [], 0), (.ifCond .ne 10, [45], 0), (.lload 16, [], 0), (.lconst 1, [], 0), (.lcmp, [], 0), (.ifCond .ge 5, [46], 0), (.nop, [45], 0)],
  [(.iconst 0, [], 0), (.ireturn, [1], 0)],
  [(.aload_n 1, [], 0), (.iconst 2, [], 0), (.bipush 8, [], 0), (.invokevirtual 43, [21, 3, 9], 3), (.bipush 8, [], 0), (.if_icmp .ne 7, [47], 0), (.iconst 1, [], 0), (.goto 4, [48], 0)],
  [(.iconst 0, [], 0), (.nop, [48], 0)],
  [(.istore 16, [], 0), (.iconst 0, [], 0), (.istore 17, [], 0), (.nop, [49], 0)],
  [(.iload 17, [], 0), (.bipush 8, [], 0), (.if_icmp .ge 56, [54], 0), (.iload 16, [], 0), (.ifCond .eq 51, [54], 0), (.aload_n 1, [], 0), (.iconst 2, [], 0), (.iload 17, [], 0), (.aload_n 0, [], 0), (.bipush 23, [], 0), (.invokestatic 15, [173, 2], 2), (.iload 17, [], 0), (.ishr, [], 0), (.iload 17, [], 0), (.iconst 3, [], 0), (.if_icmp .ge 8, [50], 0), (.bipush 8, [], 0), (.goto 4, [51], 0)],
  [(.iconst 1, [], 0), (.nop, [51], 0)],
  [(.invokestatic 21, [172, 2], 2), (.invokevirtual 50, [26, 4, 9], 4), (.iconst 1, [], 0), (.if_icmp .ne 7, [52], 0), (.iconst 1, [], 0), (.goto 4, [53], 0)],
  [(.iconst 0, [], 0), (.nop, [53], 0)],
  [(.istore 16, [], 0), (.iinc 17 1, [], 0), (.goto (-57), [49], 0)],
  [(.iload 16, [], 0), (.ifCond .eq 36, [55], 0), (.aload_n 1, [], 0), (.aload_n 0, [], 0), (.bipush 24, [], 0), (.invokestatic 15, [173, 2], 2), (.iconst 2, [], 0), (.invokestatic 21, [172, 2], 2), (.iconst 2, [], 0), (.aload_n 0, [], 0), (.bipush 24, [], 0), (.invokestatic 15, [173, 2], 2), (.iconst 2, [], 0), (.ishr, [], 0), (.bipush 10, [], 0), (.invokestatic 21, [172, 2], 2), (.invokevirtual 53, [61, 4, 9], 4), (.iload 8, [], 0), (.if_icmp .eq 5, [56], 0), (.nop, [55], 0)],
  [(.iconst 0, [], 0), (.ireturn, [1], 0)],
  [(.aload_n 1, [], 0), (.invokevirtual 95, [101, 1, 9], 1), (.istore 17, [], 0), (.iload 17, [], 0), (.ifCond .lt 15, [57], 0), (.iload 11, [], 0), (.ifCond .lt 39, [59], 0), (.iload 17, [], 0), (.iload 11, [], 0), (.if_icmp .lt 32, [59], 0), (.nop, [57], 0)],
  [(.iload 11, [], 0), (.ifCond .ge 8, [58], 0), (.iload 17, [], 0), (.ifCond .ge 22, [59], 0), (.nop, [58], 0)],
  [(.aload_n 1, [], 0), (.iload 8, [], 0), (.invokevirtual 133, [69, 2, 9], 2), (.iconst 1, [], 0), (.if_icmp .ne 12, [59], 0), (.aload_n 1, [], 0), (.invokevirtual 95, [101, 1, 9], 1), (.iload 11, [], 0), (.if_icmp .eq 5, [60], 0), (.nop, [59], 0)],
  [(.iconst 0, [], 0), (.ireturn, [1], 0)],
  [(.aload_n 1, [], 0), (.bipush 11, [], 0), (.invokevirtual 136, [143, 2, 9], 2), (.ifCond .ne 18, [61], 0), (.aload_n 1, [], 0), (.aload_n 1, [], 0), (.invokevirtual 139, [154, 1, 9], 1), (.invokevirtual 142, [152, 2, 9], 2), (.aload_n 1, [], 0), (.invokevirtual 9, [158, 1, 9], 1), (.if_icmp .eq 5, [62], 0), (.nop, [61], 0)],
  [(.iconst 0, [], 0), (.ireturn, [1], 0)],
  [(.aload_n 0, [], 0), (.bipush 25, [], 0), (.invokestatic 15, [173, 2], 2), (.iload 6, [], 0), (.invokestatic 21, [172, 2], 2), (.istore 18, [], 0), (.iload 18, [], 0), (.ifCond .ne 7, [63], 0), (.iconst 1, [], 0), (.goto 16, [65], 0)],
  [(.iload 18, [], 0), (.iconst 1, [], 0), (.if_icmp .ne 8, [64], 0), (.bipush 10, [], 0), (.goto 5, [65], 0)],
  [(.bipush 100, [], 0), (.nop, [65], 0)],
  [(.istore 19, [], 0), (.aload_n 1, [], 0), (.iconst 0, [], 0), (.iconst 1, [], 0), (.iload 18, [], 0), (.iconst 0, [], 0), (.invokevirtual 145, [130, 5, 9], 5), (.ifCond .ne 90, [66], 0), (.aload_n 1, [], 0), (.iconst 0, [], 0), (.invokevirtual 136, [143, 2, 9], 2), (.iload 19, [], 0), (.if_icmp .ne 80, [66], 0), (.aload_n 1, [], 0), (.iconst 3, [], 0), (.iconst 2, [], 0), (.iload 18, [], 0), (.iconst 0, [], 0), (.invokevirtual 145, [130, 5, 9], 5), (.iconst 1, [], 0), (.if_icmp .ne 67, [66], 0), (.aload_n 1, [], 0), (.iconst 2, [], 0), (.invokevirtual 136, [143, 2, 9], 2), (.iload 19, [], 0), (.if_icmp .ne 57, [66], 0), (.aload_n 1, [], 0), (.iconst 3, [], 0), (.invokevirtual 136, [143, 2, 9], 2), (.ifCond .ne 49, [66], 0), (.aload_n 1, [], 0), (.iconst 5, [], 0), (.iconst 2, [], 0), (.iload 18, [], 0), (.iconst 0, [], 0), (.invokevirtual 145, [130, 5, 9], 5), (.iconst 2, [], 0), (.if_icmp .ne 36, [66], 0), (.aload_n 1, [], 0), (.iconst 4, [], 0), (.invokevirtual 136, [143, 2, 9], 2), (.ifCond .ne 28, [66], 0), (.aload_n 1, [], 0), (.iconst 5, [], 0), (.invokevirtual 136, [143, 2, 9], 2), (.bipush (-9), [], 0), (.if_icmp .ne 18, [66], 0), (.aload_n 1, [], 0), (.bipush 11, [], 0), (.invokevirtual 136, [143, 2, 9], 2), (.bipush (-9), [], 0), (.if_icmp .ne 7, [66], 0), (.iconst 1, [], 0), (.goto 4, [67], 0)],
  [(.iconst 0, [], 0), (.nop, [67], 0)],
  [(.ireturn, [1], 0)]]
def am_s0 : List Nat := [0, 60, 77, 86, 103, 291, 293, 358, 359, 373, 374, 405, 406, 410, 412, 506, 508, 511, 513, 519, 522, 590, 592, 595, 636, 638, 644, 650, 672, 673, 684, 685, 690, 699, 741, 807, 820, 822, 828, 842, 915, 971, 994, 996, 1019, 1034, 1036, 1052, 1053, 1058, 1094, 1095, 1109, 1110, 1118, 1156, 1158, 1181, 1191, 1210, 1212, 1236, 1238, 1260, 1271, 1273, 1374, 1375]
/-- WashLine.<init>()V -/
def am_b1 : List (List am_I) := [[(.aload_n 0, [], 0), (.invokespecial 3, [], 0), (.aload_n 0, [], 0), (.bipush 6, [], 0), (.anewarray 9, [6], 0), (.putfield 11, [9, 0], 0), (.aload_n 0, [], 0), (.iconst 4, [], 0), (.anewarray 9, [6], 0), (.putfield 15, [9, 1], 0), (.aload_n 0, [], 0), (.new 18, [8], 0), (.dup, [], 0), (.invokespecial 20, [2, 1], 1), (.putfield 21, [9, 2], 0), (.aload_n 0, [], 0), (.new 25, [3], 0), (.dup, [], 0), (.invokespecial 27, [5, 1], 1), (.putfield 28, [9, 3], 0), (.aload_n 0, [], 0), (.new 32, [0], 0), (.dup, [], 0), (.aload_n 0, [], 0), (.getfield 21, [9, 2], 0), (.invokespecial 34, [7, 2], 2), (.putfield 37, [9, 4], 0), (.aload_n 0, [], 0), (.new 41, [1], 0), (.dup, [], 0), (.invokespecial 43, [16, 1], 1), (.putfield 44, [9, 5], 0), (.aload_n 0, [], 0), (.new 48, [2], 0), (.dup, [], 0), (.aload_n 0, [], 0), (.getfield 21, [9, 2], 0), (.aload_n 0, [], 0), (.getfield 37, [9, 4], 0), (.aload_n 0, [], 0), (.getfield 44, [9, 5], 0), (.invokespecial 50, [17, 4], 4), (.putfield 53, [9, 6], 0), (.aload_n 0, [], 0), (.new 57, [4], 0), (.dup, [], 0), (.aload_n 0, [], 0), (.getfield 21, [9, 2], 0), (.aload_n 0, [], 0), (.getfield 37, [9, 4], 0), (.invokespecial 59, [18, 3], 3), (.putfield 62, [9, 7], 0), (.aload_n 0, [], 0), (.new 66, [7], 0), (.dup, [], 0), (.aload_n 0, [], 0), (.getfield 37, [9, 4], 0), (.aload_n 0, [], 0), (.getfield 44, [9, 5], 0), (.aload_n 0, [], 0), (.getfield 53, [9, 6], 0), (.aload_n 0, [], 0), (.getfield 62, [9, 7], 0), (.invokespecial 68, [19, 5], 5), (.putfield 71, [9, 8], 0), (.aload_n 0, [], 0), (.new 75, [5], 0), (.dup, [], 0), (.aload_n 0, [], 0), (.getfield 21, [9, 2], 0), (.aload_n 0, [], 0), (.getfield 44, [9, 5], 0), (.invokespecial 77, [20, 3], 3), (.putfield 80, [9, 9], 0), (.aload_n 0, [], 0), (.bipush 6, [], 0), (.newarray .int, [], 0), (.putfield 84, [9, 10], 0), (.aload_n 0, [], 0), (.iconst 0, [], 0), (.putfield 88, [9, 11], 0), (.aload_n 0, [], 0), (.iconst 0, [], 0), (.putfield 92, [9, 12], 0), (.aload_n 0, [], 0), (.lconst 0, [], 0), (.putfield 95, [9, 13], 0), (.aload_n 0, [], 0), (.lconst 0, [], 0), (.putfield 99, [9, 14], 0), (.aload_n 0, [], 0), (.lconst 1, [], 0), (.putfield 102, [9, 15], 0), (.iconst 0, [], 0), (.istore_n 1, [], 0), (.nop, [1], 0)],
  [(.iload_n 1, [], 0), (.bipush 6, [], 0), (.if_icmp .ge 24, [2], 0), (.aload_n 0, [], 0), (.getfield 11, [9, 0], 0), (.iload_n 1, [], 0), (.new 9, [6], 0), (.dup, [], 0), (.bipush 40, [], 0), (.invokespecial 105, [6, 2], 2), (.aastore, [], 0), (.iinc 1 1, [], 0), (.goto (-24), [1], 0)],
  [(.iconst 0, [], 0), (.istore_n 1, [], 0), (.nop, [3], 0)],
  [(.iload_n 1, [], 0), (.iconst 4, [], 0), (.if_icmp .ge 24, [4], 0), (.aload_n 0, [], 0), (.getfield 15, [9, 1], 0), (.iload_n 1, [], 0), (.new 9, [6], 0), (.dup, [], 0), (.bipush 120, [], 0), (.invokespecial 105, [6, 2], 2), (.aastore, [], 0), (.iinc 1 1, [], 0), (.goto (-23), [3], 0)],
  [(.return_, [], 0)]]
def am_s1 : List Nat := [0, 192, 219, 221, 247]
/-- WashLine$World.<init>()V -/
def am_b2 : List (List am_I) := [[(.aload_n 0, [], 0), (.invokespecial 3, [], 0), (.aload_n 0, [], 0), (.bipush 6, [], 0), (.newarray .int, [], 0), (.putfield 9, [8, 1], 0), (.aload_n 0, [], 0), (.bipush 48, [], 0), (.newarray .int, [], 0), (.putfield 15, [8, 2], 0), (.aload_n 0, [], 0), (.bipush 48, [], 0), (.newarray .int, [], 0), (.putfield 18, [8, 3], 0), (.aload_n 0, [], 0), (.iconst 5, [], 0), (.newarray .int, [], 0), (.putfield 21, [8, 5], 0), (.aload_n 0, [], 0), (.invokevirtual 24, [3, 1, 8], 1), (.return_, [], 0)]]
def am_s2 : List Nat := [0]
/-- WashLine$World.clear()V -/
def am_b3 : List (List am_I) := [[(.aload_n 0, [], 0), (.iconst 0, [], 0), (.putfield 27, [8, 0], 0), (.aload_n 0, [], 0), (.iconst 0, [], 0), (.putfield 31, [8, 4], 0), (.aload_n 0, [], 0), (.getfield 9, [8, 1], 0), (.bipush (-9), [], 0), (.invokestatic 34, [4, 2], 2), (.aload_n 0, [], 0), (.getfield 15, [8, 2], 0), (.iconst 0, [], 0), (.invokestatic 34, [4, 2], 2), (.aload_n 0, [], 0), (.getfield 18, [8, 3], 0), (.iconst 0, [], 0), (.invokestatic 34, [4, 2], 2), (.aload_n 0, [], 0), (.getfield 21, [8, 5], 0), (.iconst 0, [], 0), (.iconst 3, [], 0), (.iastore, [], 0), (.aload_n 0, [], 0), (.getfield 21, [8, 5], 0), (.iconst 1, [], 0), (.iconst 3, [], 0), (.iastore, [], 0), (.aload_n 0, [], 0), (.getfield 21, [8, 5], 0), (.iconst 2, [], 0), (.iconst 1, [], 0), (.iastore, [], 0), (.aload_n 0, [], 0), (.getfield 21, [8, 5], 0), (.iconst 3, [], 0), (.iconst 2, [], 0), (.iastore, [], 0), (.aload_n 0, [], 0), (.getfield 21, [8, 5], 0), (.iconst 4, [], 0), (.iconst 2, [], 0), (.iastore, [], 0), (.return_, [], 0)]]
def am_s3 : List Nat := [0]
/-- java/util/Arrays.fill([II)V -/
def am_b4 : List (List am_I) := [[(.iconst 0, [], 0), (.istore_n 2, [], 0), (.aload_n 0, [], 0), (.arraylength, [], 0), (.istore_n 3, [], 0), (.nop, [1], 0)],
  [(.iload_n 2, [], 0), (.iload_n 3, [], 0), (.if_icmp .ge 13, [2], 0), (.aload_n 0, [], 0), (.iload_n 2, [], 0), (.iload_n 1, [], 0), (.iastore, [], 0), (.iinc 2 1, [], 0), (.goto (-12), [1], 0)],
  [(.return_, [], 0)]]
def am_s4 : List Nat := [0, 5, 20]
/-- WashLine$Reader.<init>()V -/
def am_b5 : List (List am_I) := [[(.aload_n 0, [], 0), (.invokespecial 3, [], 0), (.aload_n 0, [], 0), (.new 9, [6], 0), (.dup, [], 0), (.iconst 0, [], 0), (.invokespecial 11, [6, 2], 2), (.putfield 14, [3, 0], 0), (.aload_n 0, [], 0), (.new 20, [8], 0), (.dup, [], 0), (.invokespecial 22, [2, 1], 1), (.putfield 23, [3, 2], 0), (.return_, [], 0)]]
def am_s5 : List Nat := [0]
/-- WashLine$Strip.<init>(I)V -/
def am_b6 : List (List am_I) := [[(.aload_n 0, [], 0), (.invokespecial 1, [], 0), (.aload_n 0, [], 0), (.iconst (-1), [], 0), (.putfield 7, [6, 1], 0), (.aload_n 0, [], 0), (.iload_n 1, [], 0), (.newarray .int, [], 0), (.putfield 13, [6, 0], 0), (.return_, [], 0)]]
def am_s6 : List Nat := [0]
/-- WashLine$Houses.<init>(LWashLine$World;)V -/
def am_b7 : List (List am_I) := [[(.aload_n 0, [], 0), (.invokespecial 3, [], 0), (.aload_n 0, [], 0), (.sipush 462, [], 0), (.newarray .int, [], 0), (.putfield 9, [0, 2], 0), (.aload_n 0, [], 0), (.sipush 462, [], 0), (.newarray .int, [], 0), (.putfield 15, [0, 3], 0), (.aload_n 0, [], 0), (.sipush 2772, [], 0), (.newarray .int, [], 0), (.putfield 18, [0, 4], 0), (.aload_n 0, [], 0), (.sipush 2772, [], 0), (.newarray .int, [], 0), (.putfield 21, [0, 5], 0), (.aload_n 0, [], 0), (.sipush 2772, [], 0), (.newarray .int, [], 0), (.putfield 24, [0, 6], 0), (.aload_n 0, [], 0), (.sipush 2772, [], 0), (.newarray .int, [], 0), (.putfield 27, [0, 7], 0), (.aload_n 0, [], 0), (.sipush 3696, [], 0), (.newarray .int, [], 0), (.putfield 30, [0, 8], 0), (.aload_n 0, [], 0), (.sipush 3696, [], 0), (.newarray .int, [], 0), (.putfield 33, [0, 9], 0), (.aload_n 0, [], 0), (.aload_n 1, [], 0), (.putfield 36, [0, 0], 0), (.aload_n 0, [], 0), (.invokevirtual 40, [8, 1, 0], 1), (.return_, [], 0)]]
def am_s7 : List Nat := [0]
/-- WashLine$Houses.build()V -/
def am_b8 : List (List am_I) := [[(.aload_n 0, [], 0), (.invokevirtual 43, [9, 1, 0], 1), (.iconst 0, [], 0), (.istore_n 1, [], 0), (.nop, [1], 0)],
  [(.iload_n 1, [], 0), (.aload_n 0, [], 0), (.getfield 46, [0, 1], 0), (.if_icmp .ge 115, [8], 0), (.iconst 0, [], 0), (.istore_n 2, [], 0), (.nop, [2], 0)],
  [(.iload_n 2, [], 0), (.bipush 6, [], 0), (.if_icmp .ge 96, [7], 0), (.aload_n 0, [], 0), (.getfield 21, [0, 5], 0), (.iload_n 1, [], 0), (.bipush 6, [], 0), (.imul, [], 0), (.iload_n 2, [], 0), (.iadd, [], 0), (.iload_n 2, [], 0), (.aload_n 0, [], 0), (.getfield 36, [0, 0], 0), (.getfield 50, [8, 0], 0), (.if_icmp .ge 22, [3], 0), (.aload_n 0, [], 0), (.aload_n 0, [], 0), (.getfield 9, [0, 2], 0), (.iload_n 1, [], 0), (.iaload, [], 0), (.getstatic 55, [], 0), (.iload_n 2, [], 0), (.iaload, [], 0), (.iadd, [], 0), (.invokevirtual 58, [13, 2, 0], 2), (.goto 4, [4], 0)],
  [(.iconst (-1), [], 0), (.nop, [4], 0)],
  [(.iastore, [], 0), (.aload_n 0, [], 0), (.getfield 24, [0, 6], 0), (.iload_n 1, [], 0), (.bipush 6, [], 0), (.imul, [], 0), (.iload_n 2, [], 0), (.iadd, [], 0), (.aload_n 0, [], 0), (.getfield 18, [0, 4], 0), (.iload_n 1, [], 0), (.bipush 6, [], 0), (.imul, [], 0), (.iload_n 2, [], 0), (.iadd, [], 0), (.iaload, [], 0), (.ifCond .le 22, [5], 0), (.aload_n 0, [], 0), (.aload_n 0, [], 0), (.getfield 9, [0, 2], 0), (.iload_n 1, [], 0), (.iaload, [], 0), (.getstatic 55, [], 0), (.iload_n 2, [], 0), (.iaload, [], 0), (.isub, [], 0), (.invokevirtual 58, [13, 2, 0], 2), (.goto 4, [6], 0)],
  [(.iconst (-1), [], 0), (.nop, [6], 0)],
  [(.iastore, [], 0), (.iinc 2 1, [], 0), (.goto (-96), [2], 0)],
  [(.aload_n 0, [], 0), (.iload_n 1, [], 0), (.invokevirtual 62, [14, 2, 0], 2), (.iinc 1 1, [], 0), (.goto (-117), [1], 0)],
  [(.iconst 0, [], 0), (.istore_n 1, [], 0), (.nop, [9], 0)],
  [(.iload_n 1, [], 0), (.aload_n 0, [], 0), (.getfield 46, [0, 1], 0), (.if_icmp .ge 40, [12], 0), (.iconst 0, [], 0), (.istore_n 2, [], 0), (.nop, [10], 0)],
  [(.iload_n 2, [], 0), (.bipush 6, [], 0), (.if_icmp .ge 26, [11], 0), (.aload_n 0, [], 0), (.getfield 27, [0, 7], 0), (.iload_n 1, [], 0), (.bipush 6, [], 0), (.imul, [], 0), (.iload_n 2, [], 0), (.iadd, [], 0), (.aload_n 0, [], 0), (.iload_n 1, [], 0), (.iload_n 2, [], 0), (.invokevirtual 66, [15, 3, 0], 3), (.iastore, [], 0), (.iinc 2 1, [], 0), (.goto (-26), [10], 0)],
  [(.iinc 1 1, [], 0), (.goto (-42), [9], 0)],
  [(.return_, [], 0)]]
def am_s8 : List Nat := [0, 6, 16, 62, 63, 107, 108, 115, 126, 128, 138, 167, 173]
/-- WashLine$Houses.list()V -/
def am_b9 : List (List am_I) := [[(.aload_n 0, [], 0), (.iconst 1, [], 0), (.putfield 46, [0, 1], 0), (.aload_n 0, [], 0), (.getfield 9, [0, 2], 0), (.iconst 0, [], 0), (.iconst 0, [], 0), (.iastore, [], 0), (.aload_n 0, [], 0), (.getfield 15, [0, 3], 0), (.iconst 0, [], 0), (.iconst 0, [], 0), (.iastore, [], 0), (.aload_n 0, [], 0), (.getfield 18, [0, 4], 0), (.iconst 0, [], 0), (.bipush 6, [], 0), (.iconst 0, [], 0), (.invokestatic 70, [10, 4], 4), (.nop, [1], 0)],
  [(.aload_n 0, [], 0), (.getfield 46, [0, 1], 0), (.sipush 462, [], 0), (.if_icmp .ge 33, [2], 0), (.aload_n 0, [], 0), (.aload_n 0, [], 0), (.getfield 46, [0, 1], 0), (.iconst 1, [], 0), (.isub, [], 0), (.aload_n 0, [], 0), (.getfield 46, [0, 1], 0), (.invokevirtual 76, [12, 3, 0], 3), (.ifCond .eq 16, [2], 0), (.aload_n 0, [], 0), (.dup, [], 0), (.getfield 46, [0, 1], 0), (.iconst 1, [], 0), (.iadd, [], 0), (.putfield 46, [0, 1], 0), (.goto (-37), [1], 0)],
  [(.return_, [], 0)]]
def am_s9 : List Nat := [0, 30, 70]
/-- java/util/Arrays.fill([IIII)V -/
def am_b10 : List (List am_I) := [[(.aload_n 0, [], 0), (.arraylength, [], 0), (.iload_n 1, [], 0), (.iload_n 2, [], 0), (.invokestatic 13, [11, 3], 3), (.iload_n 1, [], 0), (.istore 4, [], 0), (.nop, [1], 0)],
  [(.iload 4, [], 0), (.iload_n 2, [], 0), (.if_icmp .ge 14, [2], 0), (.aload_n 0, [], 0), (.iload 4, [], 0), (.iload_n 3, [], 0), (.iastore, [], 0), (.iinc 4 1, [], 0), (.goto (-14), [1], 0)],
  [(.return_, [], 0)]]
def am_s10 : List Nat := [0, 10, 27]
/-- java/util/Arrays.rangeCheck(III)V -/
def am_b11 : List (List am_I) := [[(.iload_n 1, [], 0), (.iload_n 2, [], 0), (.if_icmp .le 44, [1], 0)],
  [(.iload_n 1, [], 0), (.ifCond .ge 12, [2], 0)],
  [(.iload_n 2, [], 0), (.iload_n 0, [], 0), (.if_icmp .le 12, [3], 0)],
  [(.return_, [], 0)]]
def am_s11 : List Nat := [0, 46, 59, 73]
/-- WashLine$Houses.follow(II)Z -/
def am_b12 : List (List am_I) := [[(.aload_n 0, [], 0), (.getfield 15, [0, 3], 0), (.iload_n 1, [], 0), (.iaload, [], 0), (.istore_n 3, [], 0), (.aload_n 0, [], 0), (.getfield 9, [0, 2], 0), (.iload_n 1, [], 0), (.iaload, [], 0), (.istore 4, [], 0), (.iconst 0, [], 0), (.istore 5, [], 0), (.nop, [1], 0)],
  [(.iload 5, [], 0), (.aload_n 0, [], 0), (.getfield 36, [0, 0], 0), (.getfield 50, [8, 0], 0), (.if_icmp .ge 135, [3], 0), (.iload_n 3, [], 0), (.iconst 5, [], 0), (.if_icmp .ge 85, [2], 0), (.aload_n 0, [], 0), (.getfield 18, [0, 4], 0), (.iload_n 1, [], 0), (.bipush 6, [], 0), (.imul, [], 0), (.aload_n 0, [], 0), (.getfield 18, [0, 4], 0), (.iload_n 2, [], 0), (.bipush 6, [], 0), (.imul, [], 0), (.bipush 6, [], 0), (.invokestatic 80, [], 0), (.aload_n 0, [], 0), (.getfield 18, [0, 4], 0), (.iload_n 2, [], 0), (.bipush 6, [], 0), (.imul, [], 0), (.iload_n 2, [], 0), (.bipush 6, [], 0), (.imul, [], 0), (.iload 5, [], 0), (.iadd, [], 0), (.iconst 0, [], 0), (.invokestatic 70, [10, 4], 4), (.aload_n 0, [], 0), (.getfield 18, [0, 4], 0), (.iload_n 2, [], 0), (.bipush 6, [], 0), (.imul, [], 0), (.iload 5, [], 0), (.iadd, [], 0), (.dup2, [], 0), (.iaload, [], 0), (.iconst 1, [], 0), (.iadd, [], 0), (.iastore, [], 0), (.aload_n 0, [], 0), (.getfield 15, [0, 3], 0), (.iload_n 2, [], 0), (.iload_n 3, [], 0), (.iconst 1, [], 0), (.iadd, [], 0), (.iastore, [], 0), (.aload_n 0, [], 0), (.getfield 9, [0, 2], 0), (.iload_n 2, [], 0), (.iload 4, [], 0), (.getstatic 55, [], 0), (.iload 5, [], 0), (.iaload, [], 0), (.iadd, [], 0), (.iastore, [], 0), (.iconst 1, [], 0), (.ireturn, [1], 0)],
  [(.iload_n 3, [], 0), (.aload_n 0, [], 0), (.getfield 18, [0, 4], 0), (.iload_n 1, [], 0), (.bipush 6, [], 0), (.imul, [], 0), (.iload 5, [], 0), (.iadd, [], 0), (.iaload, [], 0), (.isub, [], 0), (.istore_n 3, [], 0), (.iload 4, [], 0), (.aload_n 0, [], 0), (.getfield 18, [0, 4], 0), (.iload_n 1, [], 0), (.bipush 6, [], 0), (.imul, [], 0), (.iload 5, [], 0), (.iadd, [], 0), (.iaload, [], 0), (.getstatic 55, [], 0), (.iload 5, [], 0), (.iaload, [], 0), (.imul, [], 0), (.isub, [], 0), (.istore 4, [], 0), (.iinc 5 1, [], 0), (.goto (-141), [1], 0)],
  [(.iconst 0, [], 0), (.ireturn, [1], 0)]]
def am_s12 : List Nat := [0, 18, 117, 162]
/-- WashLine$Houses.find(I)I -/
def am_b13 : List (List am_I) := [[(.iconst 0, [], 0), (.istore_n 2, [], 0), (.aload_n 0, [], 0), (.getfield 46, [0, 1], 0), (.iconst 1, [], 0), (.isub, [], 0), (.istore_n 3, [], 0), (.nop, [1], 0)],
  [(.iload_n 2, [], 0), (.iload_n 3, [], 0), (.if_icmp .gt 51, [5], 0), (.iload_n 2, [], 0), (.iload_n 3, [], 0), (.iadd, [], 0), (.iconst 2, [], 0), (.idiv, [], 0), (.istore 4, [], 0), (.aload_n 0, [], 0), (.getfield 9, [0, 2], 0), (.iload 4, [], 0), (.iaload, [], 0), (.iload_n 1, [], 0), (.if_icmp .ne 6, [2], 0), (.iload 4, [], 0), (.ireturn, [0], 0)],
  [(.aload_n 0, [], 0), (.getfield 9, [0, 2], 0), (.iload 4, [], 0), (.iaload, [], 0), (.iload_n 1, [], 0), (.if_icmp .ge 11, [3], 0), (.iload 4, [], 0), (.iconst 1, [], 0), (.iadd, [], 0), (.istore_n 2, [], 0), (.goto 8, [4], 0)],
  [(.iload 4, [], 0), (.iconst 1, [], 0), (.isub, [], 0), (.istore_n 3, [], 0), (.nop, [4], 0)],
  [(.goto (-50), [1], 0)],
  [(.iconst (-1), [], 0), (.ireturn, [0], 0)]]
def am_s13 : List Nat := [0, 9, 35, 54, 59, 62]
/-- WashLine$Houses.hang(I)V -/
def am_b14 : List (List am_I) := [[(.iconst 0, [], 0), (.istore_n 2, [], 0), (.nop, [1], 0)],
  [(.iload_n 2, [], 0), (.bipush 8, [], 0), (.if_icmp .ge 124, [4], 0), (.iconst 0, [], 0), (.istore_n 3, [], 0), (.iconst 0, [], 0), (.istore 4, [], 0), (.iconst 0, [], 0), (.istore 5, [], 0), (.nop, [2], 0)],
  [(.iload 5, [], 0), (.aload_n 0, [], 0), (.getfield 36, [0, 0], 0), (.getfield 50, [8, 0], 0), (.if_icmp .ge 73, [3], 0), (.iload_n 3, [], 0), (.aload_n 0, [], 0), (.getfield 18, [0, 4], 0), (.iload_n 1, [], 0), (.bipush 6, [], 0), (.imul, [], 0), (.iload 5, [], 0), (.iadd, [], 0), (.iaload, [], 0), (.aload_n 0, [], 0), (.getfield 36, [0, 0], 0), (.getfield 89, [8, 2], 0), (.iload 5, [], 0), (.bipush 8, [], 0), (.imul, [], 0), (.iload_n 2, [], 0), (.iadd, [], 0), (.iaload, [], 0), (.imul, [], 0), (.iadd, [], 0), (.istore_n 3, [], 0), (.iload 4, [], 0), (.aload_n 0, [], 0), (.getfield 18, [0, 4], 0), (.iload_n 1, [], 0), (.bipush 6, [], 0), (.imul, [], 0), (.iload 5, [], 0), (.iadd, [], 0), (.iaload, [], 0), (.aload_n 0, [], 0), (.getfield 36, [0, 0], 0), (.getfield 90, [8, 3], 0), (.iload 5, [], 0), (.bipush 8, [], 0), (.imul, [], 0), (.iload_n 2, [], 0), (.iadd, [], 0), (.iaload, [], 0), (.imul, [], 0), (.iadd, [], 0), (.istore 4, [], 0), (.iinc 5 1, [], 0), (.goto (-79), [2], 0)],
  [(.aload_n 0, [], 0), (.getfield 30, [0, 8], 0), (.iload_n 1, [], 0), (.bipush 8, [], 0), (.imul, [], 0), (.iload_n 2, [], 0), (.iadd, [], 0), (.iload_n 3, [], 0), (.iastore, [], 0), (.aload_n 0, [], 0), (.getfield 33, [0, 9], 0), (.iload_n 1, [], 0), (.bipush 8, [], 0), (.imul, [], 0), (.iload_n 2, [], 0), (.iadd, [], 0), (.iload 4, [], 0), (.iastore, [], 0), (.iinc 2 1, [], 0), (.goto (-124), [1], 0)],
  [(.return_, [], 0)]]
def am_s14 : List Nat := [0, 2, 16, 98, 129]
/-- WashLine$Houses.grown(II)I -/
def am_b15 : List (List am_I) := [[(.aload_n 0, [], 0), (.getfield 24, [0, 6], 0), (.iload_n 1, [], 0), (.bipush 6, [], 0), (.imul, [], 0), (.iload_n 2, [], 0), (.iadd, [], 0), (.iaload, [], 0), (.istore_n 3, [], 0), (.iload_n 3, [], 0), (.ifCond .lt 15, [1], 0), (.aload_n 0, [], 0), (.getfield 36, [0, 0], 0), (.getfield 86, [8, 1], 0), (.iload_n 2, [], 0), (.iaload, [], 0), (.ifCond .ge 7, [2], 0), (.nop, [1], 0)],
  [(.iconst (-1), [], 0), (.goto 22, [3], 0)],
  [(.aload_n 0, [], 0), (.getfield 21, [0, 5], 0), (.iload_n 3, [], 0), (.bipush 6, [], 0), (.imul, [], 0), (.aload_n 0, [], 0), (.getfield 36, [0, 0], 0), (.getfield 86, [8, 1], 0), (.iload_n 2, [], 0), (.iaload, [], 0), (.iadd, [], 0), (.iaload, [], 0), (.nop, [3], 0)],
  [(.ireturn, [0], 0)]]
def am_s15 : List Nat := [0, 28, 32, 51]
/-- WashLine$Line.<init>()V -/
def am_b16 : List (List am_I) := [[(.aload_n 0, [], 0), (.invokespecial 3, [], 0), (.aload_n 0, [], 0), (.iconst 0, [], 0), (.putfield 9, [1, 0], 0), (.aload_n 0, [], 0), (.bipush 12, [], 0), (.newarray .int, [], 0), (.putfield 15, [1, 1], 0), (.aload_n 0, [], 0), (.bipush 12, [], 0), (.newarray .int, [], 0), (.putfield 19, [1, 2], 0), (.aload_n 0, [], 0), (.bipush 96, [], 0), (.newarray .int, [], 0), (.putfield 22, [1, 3], 0), (.return_, [], 0)]]
def am_s16 : List Nat := [0]
/-- WashLine$Looks.<init>(LWashLine$World;LWashLine$Houses;LWashLine$Line;)V -/
def am_b17 : List (List am_I) := [[(.aload_n 0, [], 0), (.invokespecial 3, [], 0), (.aload_n 0, [], 0), (.aload_n 1, [], 0), (.putfield 9, [2, 0], 0), (.aload_n 0, [], 0), (.aload_n 2, [], 0), (.putfield 15, [2, 1], 0), (.aload_n 0, [], 0), (.aload_n 3, [], 0), (.putfield 19, [2, 2], 0), (.return_, [], 0)]]
def am_s17 : List Nat := [0]
/-- WashLine$Steps.<init>(LWashLine$World;LWashLine$Houses;)V -/
def am_b18 : List (List am_I) := [[(.aload_n 0, [], 0), (.invokespecial 3, [], 0), (.aload_n 0, [], 0), (.sipush 462, [], 0), (.newarray .int, [], 0), (.putfield 9, [4, 2], 0), (.aload_n 0, [], 0), (.iconst 0, [], 0), (.newarray .byte, [], 0), (.putfield 15, [4, 3], 0), (.aload_n 0, [], 0), (.sipush 462, [], 0), (.newarray .boolean, [], 0), (.putfield 19, [4, 4], 0), (.aload_n 0, [], 0), (.aload_n 1, [], 0), (.putfield 23, [4, 0], 0), (.aload_n 0, [], 0), (.aload_n 2, [], 0), (.putfield 27, [4, 1], 0), (.return_, [], 0)]]
def am_s18 : List Nat := [0]
/-- WashLine$Winter.<init>(LWashLine$Houses;LWashLine$Line;LWashLine$Looks;LWashLine$Steps;)V -/
def am_b19 : List (List am_I) := [[(.aload_n 0, [], 0), (.invokespecial 3, [], 0), (.aload_n 0, [], 0), (.iconst 0, [], 0), (.putfield 9, [7, 4], 0), (.aload_n 0, [], 0), (.iconst 0, [], 0), (.putfield 15, [7, 5], 0), (.aload_n 0, [], 0), (.iconst 0, [], 0), (.putfield 18, [7, 6], 0), (.aload_n 0, [], 0), (.lconst 0, [], 0), (.putfield 22, [7, 7], 0), (.aload_n 0, [], 0), (.bipush 12, [], 0), (.newarray .int, [], 0), (.putfield 26, [7, 8], 0), (.aload_n 0, [], 0), (.sipush 462, [], 0), (.newarray .int, [], 0), (.putfield 30, [7, 9], 0), (.aload_n 0, [], 0), (.sipush 5544, [], 0), (.newarray .int, [], 0), (.putfield 33, [7, 10], 0), (.aload_n 0, [], 0), (.sipush 5544, [], 0), (.newarray .int, [], 0), (.putfield 36, [7, 11], 0), (.aload_n 0, [], 0), (.sipush 5544, [], 0), (.newarray .int, [], 0), (.putfield 39, [7, 12], 0), (.aload_n 0, [], 0), (.sipush 5544, [], 0), (.newarray .int, [], 0), (.putfield 42, [7, 13], 0), (.aload_n 0, [], 0), (.bipush 12, [], 0), (.newarray .int, [], 0), (.putfield 45, [7, 14], 0), (.aload_n 0, [], 0), (.sipush 5544, [], 0), (.newarray .long, [], 0), (.putfield 48, [7, 15], 0), (.aload_n 0, [], 0), (.sipush 5544, [], 0), (.newarray .long, [], 0), (.putfield 52, [7, 16], 0), (.aload_n 0, [], 0), (.bipush 64, [], 0), (.newarray .int, [], 0), (.putfield 55, [7, 17], 0), (.aload_n 0, [], 0), (.aload_n 1, [], 0), (.putfield 58, [7, 0], 0), (.aload_n 0, [], 0), (.aload_n 2, [], 0), (.putfield 62, [7, 1], 0), (.aload_n 0, [], 0), (.aload_n 3, [], 0), (.putfield 66, [7, 2], 0), (.aload_n 0, [], 0), (.aload 4, [], 0), (.putfield 70, [7, 3], 0), (.return_, [], 0)]]
def am_s19 : List Nat := [0]
/-- WashLine$Story.<init>(LWashLine$World;LWashLine$Line;)V -/
def am_b20 : List (List am_I) := [[(.aload_n 0, [], 0), (.invokespecial 3, [], 0), (.aload_n 0, [], 0), (.iconst 0, [], 0), (.putfield 9, [5, 2], 0), (.aload_n 0, [], 0), (.bipush 16, [], 0), (.newarray .int, [], 0), (.putfield 15, [5, 3], 0), (.aload_n 0, [], 0), (.bipush 16, [], 0), (.newarray .int, [], 0), (.putfield 19, [5, 4], 0), (.aload_n 0, [], 0), (.bipush 16, [], 0), (.newarray .int, [], 0), (.putfield 22, [5, 5], 0), (.aload_n 0, [], 0), (.bipush 16, [], 0), (.newarray .int, [], 0), (.putfield 25, [5, 6], 0), (.aload_n 0, [], 0), (.bipush 6, [], 0), (.newarray .int, [], 0), (.putfield 28, [5, 7], 0), (.aload_n 0, [], 0), (.bipush 8, [], 0), (.newarray .int, [], 0), (.putfield 31, [5, 8], 0), (.aload_n 0, [], 0), (.bipush 8, [], 0), (.newarray .int, [], 0), (.putfield 34, [5, 9], 0), (.aload_n 0, [], 0), (.bipush (-9), [], 0), (.putfield 37, [5, 10], 0), (.aload_n 0, [], 0), (.aload_n 1, [], 0), (.putfield 40, [5, 0], 0), (.aload_n 0, [], 0), (.aload_n 2, [], 0), (.putfield 44, [5, 1], 0), (.return_, [], 0)]]
def am_s20 : List Nat := [0]
/-- WashLine.row(II)I -/
def am_b21 : List (List am_I) := [[(.iload_n 1, [], 0), (.invokestatic 108, [22, 1], 1), (.ifCond .eq 9, [1], 0), (.iload_n 2, [], 0), (.bipush 40, [], 0), (.if_icmp .le 5, [2], 0), (.nop, [1], 0)],
  [(.iconst (-1), [], 0), (.ireturn, [0], 0)],
  [(.iload_n 2, [], 0), (.ifCond .ge 9, [3], 0), (.aload_n 0, [], 0), (.iconst 5, [], 0), (.invokevirtual 112, [24, 2, 9], 2), (.ireturn, [0], 0)],
  [(.aload_n 0, [], 0), (.getfield 11, [9, 0], 0), (.iload_n 1, [], 0), (.aaload, [], 0), (.iload_n 2, [], 0), (.iconst 0, [], 0), (.invokevirtual 116, [25, 3, 6], 3), (.iload_n 2, [], 0), (.ireturn, [0], 0)]]
def am_s21 : List Nat := [0, 13, 15, 25]
/-- WashLine.isRow(I)Z -/
def am_b22 : List (List am_I) := [[(.iload_n 0, [], 0), (.iconst 5, [], 0), (.invokestatic 197, [23, 2], 2), (.ireturn, [1], 0)]]
def am_s22 : List Nat := [0]
/-- WashLine.isWithin(II)Z -/
def am_b23 : List (List am_I) := [[(.iload_n 0, [], 0), (.ifCond .lt 12, [1], 0), (.iload_n 0, [], 0), (.iload_n 1, [], 0), (.if_icmp .gt 7, [1], 0), (.iconst 1, [], 0), (.goto 4, [2], 0)],
  [(.iconst 0, [], 0), (.nop, [2], 0)],
  [(.ireturn, [1], 0)]]
def am_s23 : List Nat := [0, 13, 14]
/-- WashLine.finds(I)I -/
def am_b24 : List (List am_I) := [[(.aload_n 0, [], 0), (.iload_n 1, [], 0), (.putfield 88, [9, 11], 0), (.aload_n 0, [], 0), (.getfield 84, [9, 10], 0), (.iload_n 1, [], 0), (.dup2, [], 0), (.iaload, [], 0), (.iconst 1, [], 0), (.iadd, [], 0), (.iastore, [], 0), (.bipush (-3), [], 0), (.ireturn, [0], 0)]]
def am_s24 : List Nat := [0]
/-- WashLine$Strip.begin(II)V -/
def am_b25 : List (List am_I) := [[(.aload_n 0, [], 0), (.iload_n 1, [], 0), (.putfield 7, [6, 1], 0), (.aload_n 0, [], 0), (.getfield 13, [6, 0], 0), (.iload_n 2, [], 0), (.invokestatic 17, [4, 2], 2), (.return_, [], 0)]]
def am_s25 : List Nat := [0]
/-- WashLine.lay(III)I -/
def am_b26 : List (List am_I) := [[(.iload_n 1, [], 0), (.invokestatic 108, [22, 1], 1), (.ifCond .ne 5, [1], 0), (.iconst (-1), [], 0), (.ireturn, [0], 0)],
  [(.aload_n 0, [], 0), (.getfield 11, [9, 0], 0), (.iload_n 1, [], 0), (.aaload, [], 0), (.invokevirtual 120, [27, 1, 6], 1), (.ifCond .eq 9, [2], 0), (.aload_n 0, [], 0), (.iconst 1, [], 0), (.invokevirtual 112, [24, 2, 9], 2), (.ireturn, [0], 0)],
  [(.aload_n 0, [], 0), (.getfield 11, [9, 0], 0), (.iload_n 1, [], 0), (.aaload, [], 0), (.iload_n 2, [], 0), (.invokevirtual 124, [28, 2, 6], 2), (.ifCond .ne 9, [3], 0), (.aload_n 0, [], 0), (.iconst 2, [], 0), (.invokevirtual 112, [24, 2, 9], 2), (.ireturn, [0], 0)],
  [(.aload_n 0, [], 0), (.aload_n 0, [], 0), (.getfield 11, [9, 0], 0), (.iload_n 1, [], 0), (.aaload, [], 0), (.iload_n 2, [], 0), (.iload_n 3, [], 0), (.invokevirtual 127, [29, 3, 6], 3), (.iconst 1, [], 0), (.invokevirtual 131, [30, 3, 9], 3), (.ireturn, [0], 0)]]
def am_s26 : List Nat := [0, 9, 27, 46]
/-- WashLine$Strip.isMissing()Z -/
def am_b27 : List (List am_I) := [[(.aload_n 0, [], 0), (.getfield 7, [6, 1], 0), (.ifCond .ge 7, [1], 0), (.iconst 1, [], 0), (.goto 4, [2], 0)],
  [(.iconst 0, [], 0), (.nop, [2], 0)],
  [(.ireturn, [1], 0)]]
def am_s27 : List Nat := [0, 11, 12]
/-- WashLine$Strip.has(I)Z -/
def am_b28 : List (List am_I) := [[(.iload_n 1, [], 0), (.ifCond .lt 15, [1], 0), (.iload_n 1, [], 0), (.aload_n 0, [], 0), (.getfield 7, [6, 1], 0), (.if_icmp .ge 7, [1], 0), (.iconst 1, [], 0), (.goto 4, [2], 0)],
  [(.iconst 0, [], 0), (.nop, [2], 0)],
  [(.ireturn, [1], 0)]]
def am_s28 : List Nat := [0, 16, 17]
/-- WashLine$Strip.swap(II)I -/
def am_b29 : List (List am_I) := [[(.aload_n 0, [], 0), (.getfield 13, [6, 0], 0), (.iload_n 1, [], 0), (.iaload, [], 0), (.istore_n 3, [], 0), (.aload_n 0, [], 0), (.getfield 13, [6, 0], 0), (.iload_n 1, [], 0), (.iload_n 2, [], 0), (.iastore, [], 0), (.iload_n 3, [], 0), (.ireturn, [0], 0)]]
def am_s29 : List Nat := [0]
/-- WashLine.tells(II)I -/
def am_b30 : List (List am_I) := [[(.aload_n 0, [], 0), (.iload_n 1, [], 0), (.putfield 92, [9, 12], 0), (.iload_n 2, [], 0), (.ireturn, [0], 0)]]
def am_s30 : List Nat := [0]
/-- WashLine.at(II)I -/
def am_b31 : List (List am_I) := [[(.iload_n 1, [], 0), (.invokestatic 108, [22, 1], 1), (.ifCond .ne 5, [1], 0), (.iconst (-1), [], 0), (.ireturn, [0], 0)],
  [(.aload_n 0, [], 0), (.getfield 11, [9, 0], 0), (.iload_n 1, [], 0), (.aaload, [], 0), (.invokevirtual 120, [27, 1, 6], 1), (.ifCond .eq 9, [2], 0), (.aload_n 0, [], 0), (.iconst 1, [], 0), (.invokevirtual 112, [24, 2, 9], 2), (.ireturn, [0], 0)],
  [(.aload_n 0, [], 0), (.getfield 11, [9, 0], 0), (.iload_n 1, [], 0), (.aaload, [], 0), (.iload_n 2, [], 0), (.invokevirtual 124, [28, 2, 6], 2), (.ifCond .ne 9, [3], 0), (.aload_n 0, [], 0), (.iconst 2, [], 0), (.invokevirtual 112, [24, 2, 9], 2), (.ireturn, [0], 0)],
  [(.aload_n 0, [], 0), (.aload_n 0, [], 0), (.getfield 11, [9, 0], 0), (.iload_n 1, [], 0), (.aaload, [], 0), (.getfield 134, [6, 0], 0), (.iload_n 2, [], 0), (.iaload, [], 0), (.iconst 1, [], 0), (.invokevirtual 131, [30, 3, 9], 3), (.ireturn, [0], 0)]]
def am_s31 : List Nat := [0, 9, 27, 46]
/-- WashLine.isWithin(II)Z -/
def am_b32 : List (List am_I) := [[(.iload_n 0, [], 0), (.ifCond .lt 12, [1], 0), (.iload_n 0, [], 0), (.iload_n 1, [], 0), (.if_icmp .gt 7, [1], 0), (.iconst 1, [], 0), (.goto 4, [2], 0)],
  [(.iconst 0, [], 0), (.nop, [2], 0)],
  [(.ireturn, [1], 0)]]
def am_s32 : List Nat := [0, 13, 14]
/-- WashLine.isWithin(II)Z -/
def am_b33 : List (List am_I) := [[(.iload_n 0, [], 0), (.ifCond .lt 12, [1], 0), (.iload_n 0, [], 0), (.iload_n 1, [], 0), (.if_icmp .gt 7, [1], 0), (.iconst 1, [], 0), (.goto 4, [2], 0)],
  [(.iconst 0, [], 0), (.nop, [2], 0)],
  [(.ireturn, [1], 0)]]
def am_s33 : List Nat := [0, 13, 14]
/-- WashLine.isWithin(II)Z -/
def am_b34 : List (List am_I) := [[(.iload_n 0, [], 0), (.ifCond .lt 12, [1], 0), (.iload_n 0, [], 0), (.iload_n 1, [], 0), (.if_icmp .gt 7, [1], 0), (.iconst 1, [], 0), (.goto 4, [2], 0)],
  [(.iconst 0, [], 0), (.nop, [2], 0)],
  [(.ireturn, [1], 0)]]
def am_s34 : List Nat := [0, 13, 14]
/-- WashLine.isWithin(II)Z -/
def am_b35 : List (List am_I) := [[(.iload_n 0, [], 0), (.ifCond .lt 12, [1], 0), (.iload_n 0, [], 0), (.iload_n 1, [], 0), (.if_icmp .gt 7, [1], 0), (.iconst 1, [], 0), (.goto 4, [2], 0)],
  [(.iconst 0, [], 0), (.nop, [2], 0)],
  [(.ireturn, [1], 0)]]
def am_s35 : List Nat := [0, 13, 14]
/-- WashLine.isWithin(II)Z -/
def am_b36 : List (List am_I) := [[(.iload_n 0, [], 0), (.ifCond .lt 12, [1], 0), (.iload_n 0, [], 0), (.iload_n 1, [], 0), (.if_icmp .gt 7, [1], 0), (.iconst 1, [], 0), (.goto 4, [2], 0)],
  [(.iconst 0, [], 0), (.nop, [2], 0)],
  [(.ireturn, [1], 0)]]
def am_s36 : List Nat := [0, 13, 14]
/-- WashLine.text(II)I -/
def am_b37 : List (List am_I) := [[(.iload_n 1, [], 0), (.invokestatic 154, [38, 1], 1), (.ifCond .eq 9, [1], 0), (.iload_n 2, [], 0), (.bipush 120, [], 0), (.if_icmp .le 5, [2], 0), (.nop, [1], 0)],
  [(.iconst (-1), [], 0), (.ireturn, [0], 0)],
  [(.iload_n 2, [], 0), (.ifCond .ge 9, [3], 0), (.aload_n 0, [], 0), (.iconst 5, [], 0), (.invokevirtual 112, [24, 2, 9], 2), (.ireturn, [0], 0)],
  [(.aload_n 0, [], 0), (.getfield 15, [9, 1], 0), (.iload_n 1, [], 0), (.aaload, [], 0), (.iload_n 2, [], 0), (.bipush 32, [], 0), (.invokevirtual 116, [25, 3, 6], 3), (.iload_n 2, [], 0), (.ireturn, [0], 0)]]
def am_s37 : List Nat := [0, 13, 15, 25]
/-- WashLine.isText(I)Z -/
def am_b38 : List (List am_I) := [[(.iload_n 0, [], 0), (.iconst 3, [], 0), (.invokestatic 197, [23, 2], 2), (.ireturn, [1], 0)]]
def am_s38 : List Nat := [0]
/-- WashLine.put(III)I -/
def am_b39 : List (List am_I) := [[(.iload_n 1, [], 0), (.invokestatic 154, [38, 1], 1), (.ifCond .ne 5, [1], 0), (.iconst (-1), [], 0), (.ireturn, [0], 0)],
  [(.aload_n 0, [], 0), (.getfield 15, [9, 1], 0), (.iload_n 1, [], 0), (.aaload, [], 0), (.invokevirtual 120, [27, 1, 6], 1), (.ifCond .eq 9, [2], 0), (.aload_n 0, [], 0), (.iconst 1, [], 0), (.invokevirtual 112, [24, 2, 9], 2), (.ireturn, [0], 0)],
  [(.aload_n 0, [], 0), (.getfield 15, [9, 1], 0), (.iload_n 1, [], 0), (.aaload, [], 0), (.iload_n 2, [], 0), (.invokevirtual 124, [28, 2, 6], 2), (.ifCond .ne 9, [3], 0), (.aload_n 0, [], 0), (.iconst 2, [], 0), (.invokevirtual 112, [24, 2, 9], 2), (.ireturn, [0], 0)],
  [(.aload_n 0, [], 0), (.getfield 15, [9, 1], 0), (.iload_n 1, [], 0), (.aaload, [], 0), (.iload_n 2, [], 0), (.iload_n 3, [], 0), (.i2b, [], 0), (.invokevirtual 127, [29, 3, 6], 3), (.sipush 1000, [], 0), (.iadd, [], 0), (.ireturn, [0], 0)]]
def am_s39 : List Nat := [0, 9, 27, 46]
/-- WashLine.fault(I)I -/
def am_b40 : List (List am_I) := [[(.iload_n 1, [], 0), (.invokestatic 154, [38, 1], 1), (.ifCond .ne 5, [1], 0), (.iconst (-1), [], 0), (.ireturn, [0], 0)],
  [(.aload_n 0, [], 0), (.getfield 15, [9, 1], 0), (.iload_n 1, [], 0), (.aaload, [], 0), (.invokevirtual 120, [27, 1, 6], 1), (.ifCond .eq 9, [2], 0), (.aload_n 0, [], 0), (.iconst 1, [], 0), (.invokevirtual 112, [24, 2, 9], 2), (.ireturn, [0], 0)],
  [(.aload_n 0, [], 0), (.getfield 28, [9, 3], 0), (.aload_n 0, [], 0), (.getfield 15, [9, 1], 0), (.iload_n 1, [], 0), (.aaload, [], 0), (.invokevirtual 157, [41, 2, 3], 2), (.ireturn, [0], 0)]]
def am_s40 : List Nat := [0, 9, 27]
/-- WashLine$Reader.read(LWashLine$Strip;)I -/
def am_b41 : List (List am_I) := [[(.aload_n 0, [], 0), (.aload_n 1, [], 0), (.putfield 14, [3, 0], 0), (.aload_n 0, [], 0), (.iconst 0, [], 0), (.putfield 27, [3, 1], 0), (.aload_n 0, [], 0), (.getfield 23, [3, 2], 0), (.invokevirtual 31, [3, 1, 8], 1), (.iconst 1, [], 0), (.istore_n 2, [], 0), (.iconst 0, [], 0), (.istore_n 3, [], 0), (.nop, [1], 0)],
  [(.iload_n 2, [], 0), (.ifCond .eq 51, [5], 0), (.aload_n 0, [], 0), (.getfield 27, [3, 1], 0), (.aload_n 0, [], 0), (.getfield 14, [3, 0], 0), (.getfield 34, [6, 1], 0), (.if_icmp .ge 37, [5], 0), (.iload_n 3, [], 0), (.bipush 120, [], 0), (.if_icmp .ge 31, [5], 0), (.aload_n 0, [], 0), (.bipush 32, [], 0), (.invokevirtual 37, [42, 2, 3], 2), (.ifCond .ne 10, [2], 0), (.aload_n 0, [], 0), (.invokevirtual 41, [44, 1, 3], 1), (.ifCond .eq 7, [3], 0), (.nop, [2], 0)],
  [(.iconst 1, [], 0), (.goto 4, [4], 0)],
  [(.iconst 0, [], 0), (.nop, [4], 0)],
  [(.istore_n 2, [], 0), (.iinc 3 1, [], 0), (.goto (-49), [1], 0)],
  [(.aload_n 0, [], 0), (.getfield 23, [3, 2], 0), (.invokevirtual 45, [50, 1, 8], 1), (.iload_n 2, [], 0), (.ifCond .eq 8, [6], 0), (.bipush (-9), [], 0), (.goto 7, [7], 0)],
  [(.aload_n 0, [], 0), (.getfield 27, [3, 1], 0), (.nop, [7], 0)],
  [(.ireturn, [0], 0)]]
def am_s41 : List Nat := [0, 21, 61, 65, 66, 73, 89, 93]
/-- WashLine$Reader.letter(I)Z -/
def am_b42 : List (List am_I) := [[(.aload_n 0, [], 0), (.invokevirtual 55, [43, 1, 3], 1), (.iload_n 1, [], 0), (.if_icmp .eq 5, [1], 0), (.iconst 0, [], 0), (.ireturn, [1], 0)],
  [(.aload_n 0, [], 0), (.dup, [], 0), (.getfield 27, [3, 1], 0), (.iconst 1, [], 0), (.iadd, [], 0), (.putfield 27, [3, 1], 0), (.iconst 1, [], 0), (.ireturn, [1], 0)]]
def am_s42 : List Nat := [0, 10]
/-- WashLine$Reader.sign()I -/
def am_b43 : List (List am_I) := [[(.aload_n 0, [], 0), (.getfield 14, [3, 0], 0), (.aload_n 0, [], 0), (.getfield 27, [3, 1], 0), (.invokevirtual 48, [28, 2, 6], 2), (.ifCond .eq 18, [1], 0), (.aload_n 0, [], 0), (.getfield 14, [3, 0], 0), (.getfield 51, [6, 0], 0), (.aload_n 0, [], 0), (.getfield 27, [3, 1], 0), (.iaload, [], 0), (.goto 6, [2], 0)],
  [(.sipush 1000, [], 0), (.nop, [2], 0)],
  [(.ireturn, [0], 0)]]
def am_s43 : List Nat := [0, 29, 32]
/-- WashLine$Reader.item()Z -/
def am_b44 : List (List am_I) := [[(.aload_n 0, [], 0), (.invokevirtual 55, [43, 1, 3], 1), (.lookupswitch 64 #[(99, 59), (105, 54), (107, 44), (119, 49)], [5, 4, 3, 1, 2], 0)],
  [(.aload_n 0, [], 0), (.invokevirtual 59, [45, 1, 3], 1), (.ireturn, [1], 0)],
  [(.aload_n 0, [], 0), (.invokevirtual 62, [47, 1, 3], 1), (.ireturn, [1], 0)],
  [(.aload_n 0, [], 0), (.invokevirtual 65, [48, 1, 3], 1), (.ireturn, [1], 0)],
  [(.aload_n 0, [], 0), (.invokevirtual 68, [49, 1, 3], 1), (.ireturn, [1], 0)],
  [(.iconst 0, [], 0), (.ireturn, [1], 0)]]
def am_s44 : List Nat := [0, 48, 53, 58, 63, 68]
/-- WashLine$Reader.sort()Z -/
def am_b45 : List (List am_I) := [[(.aload_n 0, [], 0), (.getfield 23, [3, 2], 0), (.getfield 71, [8, 0], 0), (.bipush 6, [], 0), (.if_icmp .lt 5, [1], 0), (.iconst 0, [], 0), (.ireturn, [1], 0)],
  [(.aload_n 0, [], 0), (.dup, [], 0), (.getfield 27, [3, 1], 0), (.iconst 1, [], 0), (.iadd, [], 0), (.putfield 27, [3, 1], 0), (.aload_n 0, [], 0), (.bipush 45, [], 0), (.invokevirtual 37, [42, 2, 3], 2), (.ifCond .eq 8, [2], 0), (.bipush (-9), [], 0), (.goto 9, [3], 0)],
  [(.aload_n 0, [], 0), (.iconst 0, [], 0), (.iconst 5, [], 0), (.invokevirtual 74, [46, 3, 3], 3), (.nop, [3], 0)],
  [(.istore_n 1, [], 0), (.iload_n 1, [], 0), (.iconst (-1), [], 0), (.if_icmp .ne 5, [4], 0), (.iconst 0, [], 0), (.ireturn, [1], 0)],
  [(.aload_n 0, [], 0), (.getfield 23, [3, 2], 0), (.getfield 78, [8, 1], 0), (.aload_n 0, [], 0), (.getfield 23, [3, 2], 0), (.getfield 71, [8, 0], 0), (.iload_n 1, [], 0), (.iastore, [], 0), (.aload_n 0, [], 0), (.getfield 23, [3, 2], 0), (.dup, [], 0), (.getfield 71, [8, 0], 0), (.iconst 1, [], 0), (.iadd, [], 0), (.putfield 71, [8, 0], 0), (.iconst 1, [], 0), (.ireturn, [1], 0)]]
def am_s45 : List Nat := [0, 14, 38, 44, 52]
/-- WashLine$Reader.figure(II)I -/
def am_b46 : List (List am_I) := [[(.aload_n 0, [], 0), (.invokevirtual 55, [43, 1, 3], 1), (.bipush 48, [], 0), (.isub, [], 0), (.istore_n 3, [], 0), (.iload_n 3, [], 0), (.iload_n 1, [], 0), (.if_icmp .lt 8, [1], 0), (.iload_n 3, [], 0), (.iload_n 2, [], 0), (.if_icmp .le 5, [2], 0), (.nop, [1], 0)],
  [(.iconst (-1), [], 0), (.ireturn, [0], 0)],
  [(.aload_n 0, [], 0), (.dup, [], 0), (.getfield 27, [3, 1], 0), (.iconst 1, [], 0), (.iadd, [], 0), (.putfield 27, [3, 1], 0), (.iload_n 3, [], 0), (.ireturn, [0], 0)]]
def am_s46 : List Nat := [0, 18, 20]
/-- WashLine$Reader.wash()Z -/
def am_b47 : List (List am_I) := [[(.aload_n 0, [], 0), (.dup, [], 0), (.getfield 27, [3, 1], 0), (.iconst 1, [], 0), (.iadd, [], 0), (.putfield 27, [3, 1], 0), (.aload_n 0, [], 0), (.iconst 0, [], 0), (.aload_n 0, [], 0), (.getfield 23, [3, 2], 0), (.getfield 71, [8, 0], 0), (.iconst 1, [], 0), (.isub, [], 0), (.invokevirtual 74, [46, 3, 3], 3), (.istore_n 1, [], 0), (.iload_n 1, [], 0), (.ifCond .lt 12, [1], 0), (.aload_n 0, [], 0), (.bipush 116, [], 0), (.invokevirtual 37, [42, 2, 3], 2), (.ifCond .ne 5, [2], 0), (.nop, [1], 0)],
  [(.iconst 0, [], 0), (.ireturn, [1], 0)],
  [(.aload_n 0, [], 0), (.iconst 0, [], 0), (.bipush 7, [], 0), (.invokevirtual 74, [46, 3, 3], 3), (.istore_n 2, [], 0), (.iload_n 2, [], 0), (.ifCond .lt 12, [3], 0), (.aload_n 0, [], 0), (.bipush 58, [], 0), (.invokevirtual 37, [42, 2, 3], 2), (.ifCond .ne 5, [4], 0), (.nop, [3], 0)],
  [(.iconst 0, [], 0), (.ireturn, [1], 0)],
  [(.aload_n 0, [], 0), (.iconst 0, [], 0), (.bipush 9, [], 0), (.invokevirtual 74, [46, 3, 3], 3), (.istore_n 3, [], 0), (.iload_n 3, [], 0), (.ifCond .lt 12, [5], 0), (.aload_n 0, [], 0), (.bipush 45, [], 0), (.invokevirtual 37, [42, 2, 3], 2), (.ifCond .ne 5, [6], 0), (.nop, [5], 0)],
  [(.iconst 0, [], 0), (.ireturn, [1], 0)],
  [(.aload_n 0, [], 0), (.iload_n 3, [], 0), (.bipush 9, [], 0), (.invokevirtual 74, [46, 3, 3], 3), (.istore 4, [], 0), (.iload 4, [], 0), (.ifCond .ge 5, [7], 0), (.iconst 0, [], 0), (.ireturn, [1], 0)],
  [(.aload_n 0, [], 0), (.getfield 23, [3, 2], 0), (.getfield 81, [8, 2], 0), (.iload_n 1, [], 0), (.bipush 8, [], 0), (.imul, [], 0), (.iload_n 2, [], 0), (.iadd, [], 0), (.iload_n 3, [], 0), (.iastore, [], 0), (.aload_n 0, [], 0), (.getfield 23, [3, 2], 0), (.getfield 84, [8, 3], 0), (.iload_n 1, [], 0), (.bipush 8, [], 0), (.imul, [], 0), (.iload_n 2, [], 0), (.iadd, [], 0), (.iload 4, [], 0), (.iastore, [], 0), (.iconst 1, [], 0), (.ireturn, [1], 0)]]
def am_s47 : List Nat := [0, 38, 40, 61, 63, 84, 86, 102]
/-- WashLine$Reader.inside()Z -/
def am_b48 : List (List am_I) := [[(.aload_n 0, [], 0), (.dup, [], 0), (.getfield 27, [3, 1], 0), (.iconst 1, [], 0), (.iadd, [], 0), (.putfield 27, [3, 1], 0), (.aload_n 0, [], 0), (.iconst 0, [], 0), (.bipush 7, [], 0), (.invokevirtual 74, [46, 3, 3], 3), (.istore_n 1, [], 0), (.iload_n 1, [], 0), (.ifCond .ge 5, [1], 0), (.iconst 0, [], 0), (.ireturn, [1], 0)],
  [(.aload_n 0, [], 0), (.getfield 23, [3, 2], 0), (.dup, [], 0), (.getfield 87, [8, 4], 0), (.iconst 1, [], 0), (.iload_n 1, [], 0), (.ishl, [], 0), (.ior, [], 0), (.putfield 87, [8, 4], 0), (.iconst 1, [], 0), (.ireturn, [1], 0)]]
def am_s48 : List Nat := [0, 24]
/-- WashLine$Reader.costs()Z -/
def am_b49 : List (List am_I) := [[(.aload_n 0, [], 0), (.dup, [], 0), (.getfield 27, [3, 1], 0), (.iconst 1, [], 0), (.iadd, [], 0), (.putfield 27, [3, 1], 0), (.iconst 0, [], 0), (.istore_n 1, [], 0), (.nop, [1], 0)],
  [(.iload_n 1, [], 0), (.iconst 5, [], 0), (.if_icmp .ge 33, [3], 0), (.aload_n 0, [], 0), (.iconst 0, [], 0), (.bipush 9, [], 0), (.invokevirtual 74, [46, 3, 3], 3), (.istore_n 2, [], 0), (.iload_n 2, [], 0), (.ifCond .ge 5, [2], 0), (.iconst 0, [], 0), (.ireturn, [1], 0)],
  [(.aload_n 0, [], 0), (.getfield 23, [3, 2], 0), (.getfield 89, [8, 5], 0), (.iload_n 1, [], 0), (.iload_n 2, [], 0), (.iastore, [], 0), (.iinc 1 1, [], 0), (.goto (-32), [1], 0)],
  [(.iconst 1, [], 0), (.ireturn, [1], 0)]]
def am_s49 : List Nat := [0, 12, 31, 47]
/-- WashLine$World.growIntoToldOnly()V -/
def am_b50 : List (List am_I) := [[(.iconst 0, [], 0), (.istore_n 1, [], 0), (.nop, [1], 0)],
  [(.iload_n 1, [], 0), (.bipush 6, [], 0), (.if_icmp .ge 30, [3], 0), (.aload_n 0, [], 0), (.getfield 9, [8, 1], 0), (.iload_n 1, [], 0), (.iaload, [], 0), (.aload_n 0, [], 0), (.getfield 27, [8, 0], 0), (.if_icmp .lt 11, [2], 0), (.aload_n 0, [], 0), (.getfield 9, [8, 1], 0), (.iload_n 1, [], 0), (.bipush (-9), [], 0), (.iastore, [], 0), (.nop, [2], 0)],
  [(.iinc 1 1, [], 0), (.goto (-30), [1], 0)],
  [(.return_, [], 0)]]
def am_s50 : List Nat := [0, 2, 29, 35]
/-- WashLine.world(I)I -/
def am_b51 : List (List am_I) := [[(.iload_n 1, [], 0), (.invokestatic 154, [38, 1], 1), (.ifCond .ne 5, [1], 0), (.iconst (-1), [], 0), (.ireturn, [0], 0)],
  [(.aload_n 0, [], 0), (.getfield 15, [9, 1], 0), (.iload_n 1, [], 0), (.aaload, [], 0), (.invokevirtual 120, [27, 1, 6], 1), (.ifCond .eq 9, [2], 0), (.aload_n 0, [], 0), (.iconst 1, [], 0), (.invokevirtual 112, [24, 2, 9], 2), (.ireturn, [0], 0)],
  [(.aload_n 0, [], 0), (.getfield 28, [9, 3], 0), (.aload_n 0, [], 0), (.getfield 15, [9, 1], 0), (.iload_n 1, [], 0), (.aaload, [], 0), (.invokevirtual 157, [41, 2, 3], 2), (.bipush (-9), [], 0), (.if_icmp .eq 6, [3], 0), (.bipush (-4), [], 0), (.ireturn, [0], 0)],
  [(.aload_n 0, [], 0), (.getfield 21, [9, 2], 0), (.aload_n 0, [], 0), (.getfield 28, [9, 3], 0), (.getfield 161, [3, 2], 0), (.invokevirtual 164, [52, 2, 8], 2), (.aload_n 0, [], 0), (.getfield 37, [9, 4], 0), (.invokevirtual 167, [8, 1, 0], 1), (.aload_n 0, [], 0), (.getfield 44, [9, 5], 0), (.iconst 0, [], 0), (.putfield 170, [1, 0], 0), (.aload_n 0, [], 0), (.getfield 80, [9, 9], 0), (.iconst 0, [], 0), (.putfield 171, [5, 2], 0), (.aload_n 0, [], 0), (.getfield 62, [9, 7], 0), (.invokevirtual 172, [53, 1, 4], 1), (.aload_n 0, [], 0), (.getfield 71, [9, 8], 0), (.invokevirtual 175, [54, 1, 7], 1), (.aload_n 0, [], 0), (.getfield 21, [9, 2], 0), (.getfield 176, [8, 0], 0), (.ireturn, [0], 0)]]
def am_s51 : List Nat := [0, 9, 27, 48]
/-- WashLine$World.take(LWashLine$World;)V -/
def am_b52 : List (List am_I) := [[(.aload_n 0, [], 0), (.aload_n 1, [], 0), (.getfield 27, [8, 0], 0), (.putfield 27, [8, 0], 0), (.aload_n 0, [], 0), (.aload_n 1, [], 0), (.getfield 31, [8, 4], 0), (.putfield 31, [8, 4], 0), (.aload_n 1, [], 0), (.getfield 9, [8, 1], 0), (.iconst 0, [], 0), (.aload_n 0, [], 0), (.getfield 9, [8, 1], 0), (.iconst 0, [], 0), (.bipush 6, [], 0), (.invokestatic 40, [], 0), (.aload_n 1, [], 0), (.getfield 15, [8, 2], 0), (.iconst 0, [], 0), (.aload_n 0, [], 0), (.getfield 15, [8, 2], 0), (.iconst 0, [], 0), (.bipush 48, [], 0), (.invokestatic 40, [], 0), (.aload_n 1, [], 0), (.getfield 18, [8, 3], 0), (.iconst 0, [], 0), (.aload_n 0, [], 0), (.getfield 18, [8, 3], 0), (.iconst 0, [], 0), (.bipush 48, [], 0), (.invokestatic 40, [], 0), (.aload_n 1, [], 0), (.getfield 21, [8, 5], 0), (.iconst 0, [], 0), (.aload_n 0, [], 0), (.getfield 21, [8, 5], 0), (.iconst 0, [], 0), (.iconst 5, [], 0), (.invokestatic 40, [], 0), (.return_, [], 0)]]
def am_s52 : List Nat := [0]
/-- WashLine$Steps.forget()V -/
def am_b53 : List (List am_I) := [[(.iconst 0, [], 0), (.istore_n 1, [], 0), (.nop, [1], 0)],
  [(.iload_n 1, [], 0), (.sipush 462, [], 0), (.if_icmp .ge 16, [2], 0), (.aload_n 0, [], 0), (.getfield 19, [4, 4], 0), (.iload_n 1, [], 0), (.iconst 0, [], 0), (.bastore, [], 0), (.iinc 1 1, [], 0), (.goto (-17), [1], 0)],
  [(.return_, [], 0)]]
def am_s53 : List Nat := [0, 2, 22]
/-- WashLine$Winter.forget()V -/
def am_b54 : List (List am_I) := [[(.aload_n 0, [], 0), (.iconst 0, [], 0), (.putfield 9, [7, 4], 0), (.aload_n 0, [], 0), (.iconst 0, [], 0), (.putfield 15, [7, 5], 0), (.return_, [], 0)]]
def am_s54 : List Nat := [0]
/-- WashLine.isWithin(II)Z -/
def am_b55 : List (List am_I) := [[(.iload_n 0, [], 0), (.ifCond .lt 12, [1], 0), (.iload_n 0, [], 0), (.iload_n 1, [], 0), (.if_icmp .gt 7, [1], 0), (.iconst 1, [], 0), (.goto 4, [2], 0)],
  [(.iconst 0, [], 0), (.nop, [2], 0)],
  [(.ireturn, [1], 0)]]
def am_s55 : List Nat := [0, 13, 14]
/-- WashLine.isSort(I)Z -/
def am_b56 : List (List am_I) := [[(.iload_n 1, [], 0), (.aload_n 0, [], 0), (.getfield 21, [9, 2], 0), (.getfield 176, [8, 0], 0), (.iconst 1, [], 0), (.isub, [], 0), (.invokestatic 197, [23, 2], 2), (.ireturn, [1], 0)]]
def am_s56 : List Nat := [0]
/-- WashLine.isThing(I)Z -/
def am_b57 : List (List am_I) := [[(.iload_n 0, [], 0), (.bipush 7, [], 0), (.invokestatic 197, [23, 2], 2), (.ireturn, [1], 0)]]
def am_s57 : List Nat := [0]
/-- WashLine.isWithin(II)Z -/
def am_b58 : List (List am_I) := [[(.iload_n 0, [], 0), (.ifCond .lt 12, [1], 0), (.iload_n 0, [], 0), (.iload_n 1, [], 0), (.if_icmp .gt 7, [1], 0), (.iconst 1, [], 0), (.goto 4, [2], 0)],
  [(.iconst 0, [], 0), (.nop, [2], 0)],
  [(.ireturn, [1], 0)]]
def am_s58 : List Nat := [0, 13, 14]
/-- WashLine.indoors()I -/
def am_b59 : List (List am_I) := [[(.aload_n 0, [], 0), (.getfield 21, [9, 2], 0), (.getfield 194, [8, 4], 0), (.ireturn, [0], 0)]]
def am_s59 : List Nat := [0]
/-- WashLine.isWithin(II)Z -/
def am_b60 : List (List am_I) := [[(.iload_n 0, [], 0), (.ifCond .lt 12, [1], 0), (.iload_n 0, [], 0), (.iload_n 1, [], 0), (.if_icmp .gt 7, [1], 0), (.iconst 1, [], 0), (.goto 4, [2], 0)],
  [(.iconst 0, [], 0), (.nop, [2], 0)],
  [(.ireturn, [1], 0)]]
def am_s60 : List Nat := [0, 13, 14]
/-- WashLine.monday(III)I -/
def am_b61 : List (List am_I) := [[(.iload_n 1, [], 0), (.invokestatic 203, [62, 1], 1), (.ifCond .eq 19, [1], 0), (.iload_n 2, [], 0), (.invokestatic 108, [22, 1], 1), (.ifCond .eq 12, [1], 0), (.iload_n 3, [], 0), (.bipush 9, [], 0), (.invokestatic 197, [23, 2], 2), (.ifCond .ne 5, [2], 0), (.nop, [1], 0)],
  [(.iconst (-1), [], 0), (.ireturn, [0], 0)],
  [(.aload_n 0, [], 0), (.getfield 11, [9, 0], 0), (.iload_n 2, [], 0), (.aaload, [], 0), (.invokevirtual 120, [27, 1, 6], 1), (.ifCond .eq 9, [3], 0), (.aload_n 0, [], 0), (.iconst 1, [], 0), (.invokevirtual 112, [24, 2, 9], 2), (.ireturn, [0], 0)],
  [(.aload_n 0, [], 0), (.getfield 11, [9, 0], 0), (.iload_n 2, [], 0), (.aaload, [], 0), (.getfield 137, [6, 1], 0), (.bipush 8, [], 0), (.if_icmp .eq 9, [4], 0), (.aload_n 0, [], 0), (.iconst 5, [], 0), (.invokevirtual 112, [24, 2, 9], 2), (.ireturn, [0], 0)],
  [(.aload_n 0, [], 0), (.getfield 11, [9, 0], 0), (.iload_n 2, [], 0), (.aaload, [], 0), (.bipush 40, [], 0), (.invokevirtual 206, [63, 2, 6], 2), (.ifCond .ne 9, [5], 0), (.aload_n 0, [], 0), (.iconst 3, [], 0), (.invokevirtual 112, [24, 2, 9], 2), (.ireturn, [0], 0)],
  [(.aload_n 0, [], 0), (.getfield 44, [9, 5], 0), (.getfield 170, [1, 0], 0), (.bipush 12, [], 0), (.if_icmp .lt 6, [6], 0), (.bipush (-2), [], 0), (.ireturn, [0], 0)],
  [(.aload_n 0, [], 0), (.getfield 71, [9, 8], 0), (.invokevirtual 175, [54, 1, 7], 1), (.aload_n 0, [], 0), (.getfield 44, [9, 5], 0), (.iload_n 1, [], 0), (.aload_n 0, [], 0), (.getfield 11, [9, 0], 0), (.iload_n 2, [], 0), (.aaload, [], 0), (.getfield 134, [6, 0], 0), (.iload_n 3, [], 0), (.invokevirtual 209, [64, 4, 1], 4), (.ireturn, [0], 0)]]
def am_s61 : List Nat := [0, 23, 25, 43, 63, 83, 98]
/-- WashLine.isWeather(I)Z -/
def am_b62 : List (List am_I) := [[(.iload_n 0, [], 0), (.iconst 1, [], 0), (.invokestatic 197, [23, 2], 2), (.ireturn, [1], 0)]]
def am_s62 : List Nat := [0]
/-- WashLine$Strip.holdsUpTo(I)Z -/
def am_b63 : List (List am_I) := [[(.iconst 0, [], 0), (.istore_n 2, [], 0), (.nop, [1], 0)],
  [(.iload_n 2, [], 0), (.aload_n 0, [], 0), (.getfield 7, [6, 1], 0), (.if_icmp .ge 30, [4], 0), (.aload_n 0, [], 0), (.getfield 13, [6, 0], 0), (.iload_n 2, [], 0), (.iaload, [], 0), (.ifCond .lt 13, [2], 0), (.aload_n 0, [], 0), (.getfield 13, [6, 0], 0), (.iload_n 2, [], 0), (.iaload, [], 0), (.iload_n 1, [], 0), (.if_icmp .le 5, [3], 0), (.nop, [2], 0)],
  [(.iconst 0, [], 0), (.ireturn, [1], 0)],
  [(.iinc 2 1, [], 0), (.goto (-32), [1], 0)],
  [(.iconst 1, [], 0), (.ireturn, [1], 0)]]
def am_s63 : List Nat := [0, 2, 29, 31, 37]
/-- WashLine$Line.add(I[II)I -/
def am_b64 : List (List am_I) := [[(.aload_n 0, [], 0), (.getfield 15, [1, 1], 0), (.aload_n 0, [], 0), (.getfield 9, [1, 0], 0), (.iload_n 1, [], 0), (.iastore, [], 0), (.aload_n 0, [], 0), (.getfield 19, [1, 2], 0), (.aload_n 0, [], 0), (.getfield 9, [1, 0], 0), (.iload_n 3, [], 0), (.iastore, [], 0), (.aload_n 2, [], 0), (.iconst 0, [], 0), (.aload_n 0, [], 0), (.getfield 22, [1, 3], 0), (.aload_n 0, [], 0), (.getfield 9, [1, 0], 0), (.bipush 8, [], 0), (.imul, [], 0), (.bipush 8, [], 0), (.invokestatic 25, [], 0), (.aload_n 0, [], 0), (.dup, [], 0), (.getfield 9, [1, 0], 0), (.iconst 1, [], 0), (.iadd, [], 0), (.putfield 9, [1, 0], 0), (.aload_n 0, [], 0), (.getfield 9, [1, 0], 0), (.iconst 1, [], 0), (.isub, [], 0), (.ireturn, [0], 0)]]
def am_s64 : List Nat := [0]
/-- WashLine.isWithin(II)Z -/
def am_b65 : List (List am_I) := [[(.iload_n 0, [], 0), (.ifCond .lt 12, [1], 0), (.iload_n 0, [], 0), (.iload_n 1, [], 0), (.if_icmp .gt 7, [1], 0), (.iconst 1, [], 0), (.goto 4, [2], 0)],
  [(.iconst 0, [], 0), (.nop, [2], 0)],
  [(.ireturn, [1], 0)]]
def am_s65 : List Nat := [0, 13, 14]
/-- WashLine.isMonday(I)Z -/
def am_b66 : List (List am_I) := [[(.iload_n 1, [], 0), (.aload_n 0, [], 0), (.getfield 44, [9, 5], 0), (.getfield 170, [1, 0], 0), (.iconst 1, [], 0), (.isub, [], 0), (.invokestatic 197, [23, 2], 2), (.ireturn, [1], 0)]]
def am_s66 : List Nat := [0]
/-- WashLine.isWithin(II)Z -/
def am_b67 : List (List am_I) := [[(.iload_n 0, [], 0), (.ifCond .lt 12, [1], 0), (.iload_n 0, [], 0), (.iload_n 1, [], 0), (.if_icmp .gt 7, [1], 0), (.iconst 1, [], 0), (.goto 4, [2], 0)],
  [(.iconst 0, [], 0), (.nop, [2], 0)],
  [(.ireturn, [1], 0)]]
def am_s67 : List Nat := [0, 13, 14]
/-- WashLine.isWithin(II)Z -/
def am_b68 : List (List am_I) := [[(.iload_n 0, [], 0), (.ifCond .lt 12, [1], 0), (.iload_n 0, [], 0), (.iload_n 1, [], 0), (.if_icmp .gt 7, [1], 0), (.iconst 1, [], 0), (.goto 4, [2], 0)],
  [(.iconst 0, [], 0), (.nop, [2], 0)],
  [(.ireturn, [1], 0)]]
def am_s68 : List Nat := [0, 13, 14]
/-- WashLine.back(I)I -/
def am_b69 : List (List am_I) := [[(.iload_n 1, [], 0), (.aload_n 0, [], 0), (.getfield 44, [9, 5], 0), (.getfield 170, [1, 0], 0), (.invokestatic 197, [23, 2], 2), (.ifCond .ne 5, [1], 0), (.iconst (-1), [], 0), (.ireturn, [0], 0)],
  [(.aload_n 0, [], 0), (.getfield 44, [9, 5], 0), (.getfield 170, [1, 0], 0), (.iload_n 1, [], 0), (.isub, [], 0), (.istore_n 2, [], 0), (.iload_n 2, [], 0), (.ifCond .le 18, [2], 0), (.aload_n 0, [], 0), (.getfield 44, [9, 5], 0), (.iload_n 1, [], 0), (.putfield 170, [1, 0], 0), (.aload_n 0, [], 0), (.getfield 71, [9, 8], 0), (.invokevirtual 175, [54, 1, 7], 1), (.nop, [2], 0)],
  [(.iload_n 2, [], 0), (.ireturn, [0], 0)]]
def am_s69 : List Nat := [0, 16, 45]
/-- WashLine.hangs(III)I -/
def am_b70 : List (List am_I) := [[(.aload_n 0, [], 0), (.getfield 37, [9, 4], 0), (.iload_n 1, [], 0), (.invokevirtual 222, [13, 2, 0], 2), (.istore 4, [], 0), (.iload 4, [], 0), (.ifCond .lt 17, [1], 0), (.iload_n 2, [], 0), (.invokestatic 203, [62, 1], 1), (.ifCond .eq 10, [1], 0), (.iload_n 3, [], 0), (.invokestatic 182, [57, 1], 1), (.ifCond .ne 5, [2], 0), (.nop, [1], 0)],
  [(.iconst (-1), [], 0), (.ireturn, [0], 0)],
  [(.aload_n 0, [], 0), (.aload_n 0, [], 0), (.getfield 37, [9, 4], 0), (.getfield 225, [0, 9], 0), (.iload 4, [], 0), (.bipush 8, [], 0), (.imul, [], 0), (.iload_n 3, [], 0), (.iadd, [], 0), (.iaload, [], 0), (.aload_n 0, [], 0), (.getfield 37, [9, 4], 0), (.iload 4, [], 0), (.iload_n 2, [], 0), (.iload_n 3, [], 0), (.invokevirtual 226, [71, 4, 0], 4), (.invokevirtual 131, [30, 3, 9], 3), (.ireturn, [0], 0)]]
def am_s70 : List Nat := [0, 29, 31]
/-- WashLine$Houses.leastIn(III)I -/
def am_b71 : List (List am_I) := [[(.aload_n 0, [], 0), (.getfield 36, [0, 0], 0), (.iload_n 2, [], 0), (.iload_n 3, [], 0), (.invokevirtual 91, [72, 3, 8], 3), (.ifCond .eq 7, [1], 0), (.iconst 0, [], 0), (.goto 14, [2], 0)],
  [(.aload_n 0, [], 0), (.getfield 30, [0, 8], 0), (.iload_n 1, [], 0), (.bipush 8, [], 0), (.imul, [], 0), (.iload_n 3, [], 0), (.iadd, [], 0), (.iaload, [], 0), (.nop, [2], 0)],
  [(.ireturn, [0], 0)]]
def am_s71 : List Nat := [0, 16, 27]
/-- WashLine$World.isInside(II)Z -/
def am_b72 : List (List am_I) := [[(.iload_n 1, [], 0), (.iconst 1, [], 0), (.if_icmp .ne 19, [1], 0), (.aload_n 0, [], 0), (.getfield 31, [8, 4], 0), (.iload_n 2, [], 0), (.ishr, [], 0), (.iconst 1, [], 0), (.iand, [], 0), (.iconst 1, [], 0), (.if_icmp .ne 7, [1], 0), (.iconst 1, [], 0), (.goto 4, [2], 0)],
  [(.iconst 0, [], 0), (.nop, [2], 0)],
  [(.ireturn, [1], 0)]]
def am_s72 : List Nat := [0, 21, 22]
/-- WashLine.explains(II)I -/
def am_b73 : List (List am_I) := [[(.aload_n 0, [], 0), (.getfield 37, [9, 4], 0), (.iload_n 2, [], 0), (.invokevirtual 222, [13, 2, 0], 2), (.istore_n 3, [], 0), (.iload_n 3, [], 0), (.ifCond .lt 11, [1], 0), (.aload_n 0, [], 0), (.iload_n 1, [], 0), (.invokevirtual 213, [66, 2, 9], 2), (.ifCond .ne 5, [2], 0), (.nop, [1], 0)],
  [(.iconst (-1), [], 0), (.ireturn, [0], 0)],
  [(.aload_n 0, [], 0), (.getfield 53, [9, 6], 0), (.iload_n 1, [], 0), (.iload_n 3, [], 0), (.invokevirtual 230, [74, 3, 2], 3), (.istore 4, [], 0), (.iload 4, [], 0), (.bipush (-9), [], 0), (.if_icmp .ne 8, [3], 0), (.bipush (-9), [], 0), (.goto 18, [4], 0)],
  [(.aload_n 0, [], 0), (.iload 4, [], 0), (.aload_n 0, [], 0), (.getfield 53, [9, 6], 0), (.iload 4, [], 0), (.invokevirtual 233, [81, 2, 2], 2), (.invokevirtual 131, [30, 3, 9], 3), (.nop, [4], 0)],
  [(.ireturn, [0], 0)]]
def am_s73 : List Nat := [0, 21, 23, 46, 61]
/-- WashLine$Looks.explain(II)I -/
def am_b74 : List (List am_I) := [[(.aload_n 0, [], 0), (.iload_n 1, [], 0), (.iload_n 2, [], 0), (.invokevirtual 56, [75, 3, 2], 3), (.ifCond .eq 5, [1], 0), (.iconst 0, [], 0), (.ireturn, [0], 0)],
  [(.aload_n 0, [], 0), (.iload_n 1, [], 0), (.iload_n 2, [], 0), (.invokevirtual 59, [79, 3, 2], 3), (.istore_n 3, [], 0), (.iload_n 3, [], 0), (.bipush (-9), [], 0), (.if_icmp .ne 12, [2], 0), (.aload_n 0, [], 0), (.iload_n 1, [], 0), (.iload_n 2, [], 0), (.invokevirtual 63, [80, 3, 2], 3), (.goto 4, [3], 0)],
  [(.iload_n 3, [], 0), (.nop, [3], 0)],
  [(.ireturn, [0], 0)]]
def am_s74 : List Nat := [0, 11, 33, 34]
/-- WashLine$Looks.agrees(II)Z -/
def am_b75 : List (List am_I) := [[(.aload_n 0, [], 0), (.iload_n 1, [], 0), (.iload_n 2, [], 0), (.iconst 0, [], 0), (.iconst 0, [], 0), (.iconst 0, [], 0), (.invokevirtual 23, [76, 6, 2], 6), (.ireturn, [1], 0)]]
def am_s75 : List Nat := [0]
/-- WashLine$Looks.agreesWith(IIIII)Z -/
def am_b76 : List (List am_I) := [[(.iconst 0, [], 0), (.istore 6, [], 0), (.nop, [1], 0)],
  [(.iload 6, [], 0), (.bipush 8, [], 0), (.if_icmp .ge 134, [4], 0), (.aload_n 0, [], 0), (.getfield 15, [2, 1], 0), (.getfield 27, [0, 9], 0), (.iload_n 2, [], 0), (.bipush 8, [], 0), (.imul, [], 0), (.iload 6, [], 0), (.iadd, [], 0), (.iaload, [], 0), (.iload 5, [], 0), (.aload_n 0, [], 0), (.getfield 9, [2, 0], 0), (.getfield 33, [8, 3], 0), (.iload_n 3, [], 0), (.bipush 8, [], 0), (.imul, [], 0), (.iload 6, [], 0), (.iadd, [], 0), (.iaload, [], 0), (.imul, [], 0), (.iadd, [], 0), (.istore 7, [], 0), (.aload_n 0, [], 0), (.getfield 15, [2, 1], 0), (.getfield 36, [0, 8], 0), (.iload_n 2, [], 0), (.bipush 8, [], 0), (.imul, [], 0), (.iload 6, [], 0), (.iadd, [], 0), (.iaload, [], 0), (.iload 4, [], 0), (.aload_n 0, [], 0), (.getfield 9, [2, 0], 0), (.getfield 39, [8, 2], 0), (.iload_n 3, [], 0), (.bipush 8, [], 0), (.imul, [], 0), (.iload 6, [], 0), (.iadd, [], 0), (.iaload, [], 0), (.imul, [], 0), (.iadd, [], 0), (.istore 8, [], 0), (.aload_n 0, [], 0), (.getfield 19, [2, 2], 0), (.iload_n 1, [], 0), (.iload 6, [], 0), (.iload 7, [], 0), (.invokevirtual 40, [77, 4, 1], 4), (.ifCond .ne 39, [2], 0), (.aload_n 0, [], 0), (.getfield 19, [2, 2], 0), (.iload_n 1, [], 0), (.iload 6, [], 0), (.iload 8, [], 0), (.invokevirtual 46, [78, 4, 1], 4), (.ifCond .eq 26, [3], 0), (.aload_n 0, [], 0), (.getfield 9, [2, 0], 0), (.aload_n 0, [], 0), (.getfield 19, [2, 2], 0), (.getfield 49, [1, 1], 0), (.iload_n 1, [], 0), (.iaload, [], 0), (.iload 6, [], 0), (.invokevirtual 52, [72, 3, 8], 3), (.ifCond .ne 5, [3], 0), (.nop, [2], 0)],
  [(.iconst 0, [], 0), (.ireturn, [1], 0)],
  [(.iinc 6 1, [], 0), (.goto (-135), [1], 0)],
  [(.iconst 1, [], 0), (.ireturn, [1], 0)]]
def am_s76 : List Nat := [0, 3, 133, 135, 141]
/-- WashLine$Line.isAbove(III)Z -/
def am_b77 : List (List am_I) := [[(.aload_n 0, [], 0), (.getfield 22, [1, 3], 0), (.iload_n 1, [], 0), (.bipush 8, [], 0), (.imul, [], 0), (.iload_n 2, [], 0), (.iadd, [], 0), (.iaload, [], 0), (.aload_n 0, [], 0), (.getfield 19, [1, 2], 0), (.iload_n 1, [], 0), (.iaload, [], 0), (.isub, [], 0), (.iload_n 3, [], 0), (.if_icmp .le 7, [1], 0), (.iconst 1, [], 0), (.goto 4, [2], 0)],
  [(.iconst 0, [], 0), (.nop, [2], 0)],
  [(.ireturn, [1], 0)]]
def am_s77 : List Nat := [0, 26, 27]
/-- WashLine$Line.isBelow(III)Z -/
def am_b78 : List (List am_I) := [[(.aload_n 0, [], 0), (.getfield 22, [1, 3], 0), (.iload_n 1, [], 0), (.bipush 8, [], 0), (.imul, [], 0), (.iload_n 2, [], 0), (.iadd, [], 0), (.iaload, [], 0), (.aload_n 0, [], 0), (.getfield 19, [1, 2], 0), (.iload_n 1, [], 0), (.iaload, [], 0), (.iadd, [], 0), (.iload_n 3, [], 0), (.if_icmp .ge 7, [1], 0), (.iconst 1, [], 0), (.goto 4, [2], 0)],
  [(.iconst 0, [], 0), (.nop, [2], 0)],
  [(.ireturn, [1], 0)]]
def am_s78 : List Nat := [0, 26, 27]
/-- WashLine$Looks.explainIll(II)I -/
def am_b79 : List (List am_I) := [[(.iconst 0, [], 0), (.istore_n 3, [], 0), (.nop, [1], 0)],
  [(.iload_n 3, [], 0), (.aload_n 0, [], 0), (.getfield 9, [2, 0], 0), (.getfield 66, [8, 0], 0), (.if_icmp .ge 43, [3], 0), (.aload_n 0, [], 0), (.getfield 15, [2, 1], 0), (.getfield 70, [0, 4], 0), (.iload_n 2, [], 0), (.bipush 6, [], 0), (.imul, [], 0), (.iload_n 3, [], 0), (.iadd, [], 0), (.iaload, [], 0), (.ifCond .le 20, [2], 0), (.aload_n 0, [], 0), (.iload_n 1, [], 0), (.iload_n 2, [], 0), (.iload_n 3, [], 0), (.iconst (-1), [], 0), (.iconst 0, [], 0), (.invokevirtual 23, [76, 6, 2], 6), (.ifCond .eq 8, [2], 0), (.bipush 10, [], 0), (.iload_n 3, [], 0), (.iadd, [], 0), (.ireturn, [0], 0)],
  [(.iinc 3 1, [], 0), (.goto (-48), [1], 0)],
  [(.bipush (-9), [], 0), (.ireturn, [0], 0)]]
def am_s79 : List Nat := [0, 2, 47, 53]
/-- WashLine$Looks.explainGuest(II)I -/
def am_b80 : List (List am_I) := [[(.iconst 0, [], 0), (.istore_n 3, [], 0), (.nop, [1], 0)],
  [(.iload_n 3, [], 0), (.aload_n 0, [], 0), (.getfield 9, [2, 0], 0), (.getfield 66, [8, 0], 0), (.if_icmp .ge 26, [3], 0), (.aload_n 0, [], 0), (.iload_n 1, [], 0), (.iload_n 2, [], 0), (.iload_n 3, [], 0), (.iconst 1, [], 0), (.iconst 1, [], 0), (.invokevirtual 23, [76, 6, 2], 6), (.ifCond .eq 8, [2], 0), (.bipush 20, [], 0), (.iload_n 3, [], 0), (.iadd, [], 0), (.ireturn, [0], 0)],
  [(.iinc 3 1, [], 0), (.goto (-31), [1], 0)],
  [(.bipush (-9), [], 0), (.ireturn, [0], 0)]]
def am_s80 : List Nat := [0, 2, 30, 36]
/-- WashLine$Looks.priceOf(I)I -/
def am_b81 : List (List am_I) := [[(.iload_n 1, [], 0), (.bipush 10, [], 0), (.if_icmp .ge 5, [1], 0), (.iconst 0, [], 0), (.ireturn, [0], 0)],
  [(.aload_n 0, [], 0), (.getfield 9, [2, 0], 0), (.getfield 73, [8, 5], 0), (.iload_n 1, [], 0), (.bipush 20, [], 0), (.if_icmp .ge 7, [2], 0), (.iconst 3, [], 0), (.goto 4, [3], 0)],
  [(.iconst 4, [], 0), (.nop, [3], 0)],
  [(.iaload, [], 0), (.ireturn, [0], 0)]]
def am_s81 : List Nat := [0, 8, 25, 26]
/-- WashLine.lacks(II)I -/
def am_b82 : List (List am_I) := [[(.aload_n 0, [], 0), (.getfield 37, [9, 4], 0), (.iload_n 2, [], 0), (.invokevirtual 222, [13, 2, 0], 2), (.istore_n 3, [], 0), (.iload_n 3, [], 0), (.ifCond .lt 11, [1], 0), (.aload_n 0, [], 0), (.iload_n 1, [], 0), (.invokevirtual 213, [66, 2, 9], 2), (.ifCond .ne 5, [2], 0), (.nop, [1], 0)],
  [(.iconst (-1), [], 0), (.ireturn, [0], 0)],
  [(.aload_n 0, [], 0), (.aload_n 0, [], 0), (.getfield 53, [9, 6], 0), (.iload_n 1, [], 0), (.iload_n 3, [], 0), (.invokevirtual 236, [83, 3, 2], 3), (.aload_n 0, [], 0), (.getfield 53, [9, 6], 0), (.iload_n 1, [], 0), (.iload_n 3, [], 0), (.invokevirtual 239, [84, 3, 2], 3), (.invokevirtual 131, [30, 3, 9], 3), (.ireturn, [0], 0)]]
def am_s82 : List Nat := [0, 21, 23]
/-- WashLine$Looks.tooMuch(II)I -/
def am_b83 : List (List am_I) := [[(.iconst 0, [], 0), (.istore_n 3, [], 0), (.iconst 0, [], 0), (.istore 4, [], 0), (.nop, [1], 0)],
  [(.iload 4, [], 0), (.bipush 8, [], 0), (.if_icmp .ge 44, [3], 0), (.aload_n 0, [], 0), (.getfield 19, [2, 2], 0), (.iload_n 1, [], 0), (.iload 4, [], 0), (.aload_n 0, [], 0), (.getfield 15, [2, 1], 0), (.getfield 27, [0, 9], 0), (.iload_n 2, [], 0), (.bipush 8, [], 0), (.imul, [], 0), (.iload 4, [], 0), (.iadd, [], 0), (.iaload, [], 0), (.invokevirtual 40, [77, 4, 1], 4), (.ifCond .eq 10, [2], 0), (.iload_n 3, [], 0), (.iconst 1, [], 0), (.iload 4, [], 0), (.ishl, [], 0), (.ior, [], 0), (.istore_n 3, [], 0), (.nop, [2], 0)],
  [(.iinc 4 1, [], 0), (.goto (-45), [1], 0)],
  [(.iload_n 3, [], 0), (.ireturn, [0], 0)]]
def am_s83 : List Nat := [0, 5, 47, 53]
/-- WashLine$Looks.tooLittle(II)I -/
def am_b84 : List (List am_I) := [[(.iconst 0, [], 0), (.istore_n 3, [], 0), (.iconst 0, [], 0), (.istore 4, [], 0), (.nop, [1], 0)],
  [(.iload 4, [], 0), (.bipush 8, [], 0), (.if_icmp .ge 48, [3], 0), (.aload_n 0, [], 0), (.getfield 19, [2, 2], 0), (.iload_n 1, [], 0), (.iload 4, [], 0), (.aload_n 0, [], 0), (.getfield 15, [2, 1], 0), (.iload_n 2, [], 0), (.aload_n 0, [], 0), (.getfield 19, [2, 2], 0), (.getfield 49, [1, 1], 0), (.iload_n 1, [], 0), (.iaload, [], 0), (.iload 4, [], 0), (.invokevirtual 86, [71, 4, 0], 4), (.invokevirtual 46, [78, 4, 1], 4), (.ifCond .eq 10, [2], 0), (.iload_n 3, [], 0), (.iconst 1, [], 0), (.iload 4, [], 0), (.ishl, [], 0), (.ior, [], 0), (.istore_n 3, [], 0), (.nop, [2], 0)],
  [(.iinc 4 1, [], 0), (.goto (-49), [1], 0)],
  [(.iload_n 3, [], 0), (.ireturn, [0], 0)]]
def am_s84 : List Nat := [0, 5, 51, 57]
/-- WashLine.fewest(I)I -/
def am_b85 : List (List am_I) := [[(.aload_n 0, [], 0), (.iload_n 1, [], 0), (.invokevirtual 213, [66, 2, 9], 2), (.ifCond .ne 5, [1], 0), (.iconst (-1), [], 0), (.ireturn, [0], 0)],
  [(.aload_n 0, [], 0), (.getfield 53, [9, 6], 0), (.iload_n 1, [], 0), (.invokevirtual 242, [86, 2, 2], 2), (.istore_n 2, [], 0), (.iload_n 2, [], 0), (.ifCond .ge 8, [2], 0), (.bipush (-9), [], 0), (.goto 25, [3], 0)],
  [(.aload_n 0, [], 0), (.aload_n 0, [], 0), (.getfield 37, [9, 4], 0), (.getfield 245, [0, 2], 0), (.iload_n 2, [], 0), (.iaload, [], 0), (.aload_n 0, [], 0), (.getfield 37, [9, 4], 0), (.getfield 248, [0, 3], 0), (.iload_n 2, [], 0), (.iaload, [], 0), (.invokevirtual 131, [30, 3, 9], 3), (.nop, [3], 0)],
  [(.ireturn, [0], 0)]]
def am_s85 : List Nat := [0, 10, 28, 50]
/-- WashLine$Looks.smallest(I)I -/
def am_b86 : List (List am_I) := [[(.iconst (-1), [], 0), (.istore_n 2, [], 0), (.iconst 0, [], 0), (.istore_n 3, [], 0), (.nop, [1], 0)],
  [(.iload_n 3, [], 0), (.aload_n 0, [], 0), (.getfield 15, [2, 1], 0), (.getfield 76, [0, 1], 0), (.if_icmp .ge 45, [4], 0), (.iload_n 2, [], 0), (.ifCond .lt 24, [2], 0), (.aload_n 0, [], 0), (.getfield 15, [2, 1], 0), (.getfield 90, [0, 3], 0), (.iload_n 3, [], 0), (.iaload, [], 0), (.aload_n 0, [], 0), (.getfield 15, [2, 1], 0), (.getfield 90, [0, 3], 0), (.iload_n 2, [], 0), (.iaload, [], 0), (.if_icmp .ge 14, [3], 0), (.nop, [2], 0)],
  [(.aload_n 0, [], 0), (.iload_n 1, [], 0), (.iload_n 3, [], 0), (.invokevirtual 56, [75, 3, 2], 3), (.ifCond .eq 5, [3], 0), (.iload_n 3, [], 0), (.istore_n 2, [], 0), (.nop, [3], 0)],
  [(.iinc 3 1, [], 0), (.goto (-50), [1], 0)],
  [(.iload_n 2, [], 0), (.ireturn, [0], 0)]]
def am_s86 : List Nat := [0, 4, 40, 51, 57]
/-- WashLine.bound(I)I -/
def am_b87 : List (List am_I) := [[(.aload_n 0, [], 0), (.iload_n 1, [], 0), (.invokevirtual 213, [66, 2, 9], 2), (.ifCond .eq 14, [1], 0), (.aload_n 0, [], 0), (.getfield 53, [9, 6], 0), (.iload_n 1, [], 0), (.invokevirtual 251, [88, 2, 2], 2), (.goto 4, [2], 0)],
  [(.iconst (-1), [], 0), (.nop, [2], 0)],
  [(.ireturn, [0], 0)]]
def am_s87 : List Nat := [0, 19, 20]
/-- WashLine$Looks.peopleByThings(I)I -/
def am_b88 : List (List am_I) := [[(.iconst 0, [], 0), (.istore_n 2, [], 0), (.iconst 0, [], 0), (.istore_n 3, [], 0), (.nop, [1], 0)],
  [(.iload_n 3, [], 0), (.bipush 8, [], 0), (.if_icmp .ge 75, [4], 0), (.aload_n 0, [], 0), (.getfield 19, [2, 2], 0), (.getfield 93, [1, 3], 0), (.iload_n 1, [], 0), (.bipush 8, [], 0), (.imul, [], 0), (.iload_n 3, [], 0), (.iadd, [], 0), (.iaload, [], 0), (.aload_n 0, [], 0), (.getfield 19, [2, 2], 0), (.getfield 96, [1, 2], 0), (.iload_n 1, [], 0), (.iaload, [], 0), (.isub, [], 0), (.istore 4, [], 0), (.aload_n 0, [], 0), (.iload_n 3, [], 0), (.invokevirtual 99, [89, 2, 2], 2), (.istore 5, [], 0), (.iload 4, [], 0), (.ifCond .le 11, [2], 0), (.iload 5, [], 0), (.ifCond .gt 6, [2], 0), (.bipush (-9), [], 0), (.ireturn, [0], 0)],
  [(.iload 4, [], 0), (.ifCond .le 18, [3], 0), (.iload_n 2, [], 0), (.iload 4, [], 0), (.iload 5, [], 0), (.iadd, [], 0), (.iconst 1, [], 0), (.isub, [], 0), (.iload 5, [], 0), (.idiv, [], 0), (.invokestatic 102, [0], 0), (.istore_n 2, [], 0), (.nop, [3], 0)],
  [(.iinc 3 1, [], 0), (.goto (-75), [1], 0)],
  [(.iload_n 2, [], 0), (.ireturn, [0], 0)]]
def am_s88 : List Nat := [0, 4, 56, 76, 82]
/-- WashLine$Looks.mostOfAny(I)I -/
def am_b89 : List (List am_I) := [[(.iconst 0, [], 0), (.istore_n 2, [], 0), (.iconst 0, [], 0), (.istore_n 3, [], 0), (.nop, [1], 0)],
  [(.iload_n 3, [], 0), (.aload_n 0, [], 0), (.getfield 9, [2, 0], 0), (.getfield 66, [8, 0], 0), (.if_icmp .ge 28, [2], 0), (.iload_n 2, [], 0), (.aload_n 0, [], 0), (.getfield 9, [2, 0], 0), (.getfield 33, [8, 3], 0), (.iload_n 3, [], 0), (.bipush 8, [], 0), (.imul, [], 0), (.iload_n 1, [], 0), (.iadd, [], 0), (.iaload, [], 0), (.invokestatic 102, [0], 0), (.istore_n 2, [], 0), (.iinc 3 1, [], 0), (.goto (-33), [1], 0)],
  [(.iload_n 2, [], 0), (.ireturn, [0], 0)]]
def am_s89 : List Nat := [0, 4, 40]
/-- WashLine.many(II)I -/
def am_b90 : List (List am_I) := [[(.aload_n 0, [], 0), (.iload_n 1, [], 0), (.invokevirtual 213, [66, 2, 9], 2), (.ifCond .eq 12, [1], 0), (.iload_n 2, [], 0), (.bipush 9, [], 0), (.invokestatic 197, [23, 2], 2), (.ifCond .ne 5, [2], 0), (.nop, [1], 0)],
  [(.iconst (-1), [], 0), (.ireturn, [0], 0)],
  [(.aload_n 0, [], 0), (.getfield 53, [9, 6], 0), (.iload_n 1, [], 0), (.iload_n 2, [], 0), (.invokevirtual 254, [91, 3, 2], 3), (.ireturn, [0], 0)]]
def am_s90 : List Nat := [0, 17, 19]
/-- WashLine$Looks.explained(II)I -/
def am_b91 : List (List am_I) := [[(.iconst 0, [], 0), (.istore_n 3, [], 0), (.iconst 0, [], 0), (.istore 4, [], 0), (.nop, [1], 0)],
  [(.iload 4, [], 0), (.aload_n 0, [], 0), (.getfield 15, [2, 1], 0), (.getfield 76, [0, 1], 0), (.if_icmp .ge 38, [3], 0), (.aload_n 0, [], 0), (.iload_n 1, [], 0), (.iload 4, [], 0), (.invokevirtual 79, [74, 3, 2], 3), (.istore 5, [], 0), (.iload 5, [], 0), (.bipush (-9), [], 0), (.if_icmp .eq 16, [2], 0), (.aload_n 0, [], 0), (.iload 5, [], 0), (.invokevirtual 82, [81, 2, 2], 2), (.iload_n 2, [], 0), (.if_icmp .gt 6, [2], 0), (.iinc 3 1, [], 0), (.nop, [2], 0)],
  [(.iinc 4 1, [], 0), (.goto (-44), [1], 0)],
  [(.iload_n 3, [], 0), (.ireturn, [0], 0)]]
def am_s91 : List Nat := [0, 5, 46, 52]
/-- WashLine.step(II)I -/
def am_b92 : List (List am_I) := [[(.aload_n 0, [], 0), (.getfield 37, [9, 4], 0), (.iload_n 1, [], 0), (.invokevirtual 222, [13, 2, 0], 2), (.istore_n 3, [], 0), (.aload_n 0, [], 0), (.getfield 37, [9, 4], 0), (.iload_n 2, [], 0), (.invokevirtual 222, [13, 2, 0], 2), (.istore 4, [], 0), (.iload_n 3, [], 0), (.ifCond .lt 8, [1], 0), (.iload 4, [], 0), (.ifCond .ge 5, [2], 0), (.nop, [1], 0)],
  [(.iconst (-1), [], 0), (.ireturn, [0], 0)],
  [(.aload_n 0, [], 0), (.getfield 62, [9, 7], 0), (.iload_n 3, [], 0), (.invokevirtual 257, [93, 2, 4], 2), (.aload_n 0, [], 0), (.getfield 62, [9, 7], 0), (.iload_n 3, [], 0), (.iload 4, [], 0), (.invokevirtual 260, [100, 3, 4], 3), (.ireturn, [0], 0)]]
def am_s92 : List Nat := [0, 28, 30]
/-- WashLine$Steps.know(I)V -/
def am_b93 : List (List am_I) := [[(.aload_n 0, [], 0), (.getfield 19, [4, 4], 0), (.iload_n 1, [], 0), (.baload, [], 0), (.ifCond .eq 4, [1], 0), (.return_, [], 0)],
  [(.aload_n 0, [], 0), (.getfield 27, [4, 1], 0), (.getfield 31, [0, 1], 0), (.istore_n 2, [], 0), (.aload_n 0, [], 0), (.getfield 15, [4, 3], 0), (.arraylength, [], 0), (.iload_n 2, [], 0), (.iload_n 2, [], 0), (.imul, [], 0), (.if_icmp .ge 12, [2], 0), (.aload_n 0, [], 0), (.iload_n 2, [], 0), (.iload_n 2, [], 0), (.imul, [], 0), (.newarray .byte, [], 0), (.putfield 15, [4, 3], 0), (.nop, [2], 0)],
  [(.aload_n 0, [], 0), (.getfield 9, [4, 2], 0), (.ldc 37, [], 1000000), (.invokestatic 38, [4, 2], 2), (.aload_n 0, [], 0), (.getfield 9, [4, 2], 0), (.iload_n 1, [], 0), (.iconst 0, [], 0), (.iastore, [], 0), (.aload_n 0, [], 0), (.aload_n 0, [], 0), (.getfield 9, [4, 2], 0), (.invokevirtual 44, [94, 2, 4], 2), (.iconst 0, [], 0), (.istore_n 3, [], 0), (.nop, [3], 0)],
  [(.iload_n 3, [], 0), (.iload_n 2, [], 0), (.if_icmp .ge 26, [4], 0), (.aload_n 0, [], 0), (.getfield 15, [4, 3], 0), (.iload_n 1, [], 0), (.iload_n 2, [], 0), (.imul, [], 0), (.iload_n 3, [], 0), (.iadd, [], 0), (.aload_n 0, [], 0), (.getfield 9, [4, 2], 0), (.iload_n 3, [], 0), (.iaload, [], 0), (.i2b, [], 0), (.bastore, [], 0), (.iinc 3 1, [], 0), (.goto (-25), [3], 0)],
  [(.aload_n 0, [], 0), (.getfield 19, [4, 4], 0), (.iload_n 1, [], 0), (.iconst 1, [], 0), (.bastore, [], 0), (.return_, [], 0)]]
def am_s93 : List Nat := [0, 10, 38, 64, 92]
/-- WashLine$Steps.spread([I)V -/
def am_b94 : List (List am_I) := [[(.aload_n 0, [], 0), (.aload_n 1, [], 0), (.aload_n 0, [], 0), (.getfield 23, [4, 0], 0), (.getfield 48, [8, 5], 0), (.iconst 1, [], 0), (.iaload, [], 0), (.invokevirtual 53, [95, 3, 4], 3), (.aload_n 0, [], 0), (.aload_n 1, [], 0), (.invokevirtual 56, [97, 2, 4], 2), (.aload_n 0, [], 0), (.aload_n 1, [], 0), (.aload_n 0, [], 0), (.getfield 23, [4, 0], 0), (.getfield 48, [8, 5], 0), (.iconst 0, [], 0), (.iaload, [], 0), (.invokevirtual 59, [99, 3, 4], 3), (.return_, [], 0)]]
def am_s94 : List Nat := [0]
/-- WashLine$Steps.fromMore([II)V -/
def am_b95 : List (List am_I) := [[(.aload_n 0, [], 0), (.getfield 27, [4, 1], 0), (.getfield 31, [0, 1], 0), (.iconst 1, [], 0), (.isub, [], 0), (.istore_n 3, [], 0), (.nop, [1], 0)],
  [(.iload_n 3, [], 0), (.ifCond .lt 26, [2], 0), (.aload_n 1, [], 0), (.iload_n 3, [], 0), (.aload_n 0, [], 0), (.aload_n 1, [], 0), (.aload_n 0, [], 0), (.getfield 27, [4, 1], 0), (.getfield 65, [0, 5], 0), (.iload_n 3, [], 0), (.iload_n 2, [], 0), (.invokevirtual 68, [96, 5, 4], 5), (.iastore, [], 0), (.iinc 3 (-1), [], 0), (.goto (-24), [1], 0)],
  [(.return_, [], 0)]]
def am_s95 : List Nat := [0, 10, 37]
/-- WashLine$Steps.leastOf([I[III)I -/
def am_b96 : List (List am_I) := [[(.aload_n 1, [], 0), (.iload_n 3, [], 0), (.iaload, [], 0), (.istore 5, [], 0), (.iload_n 3, [], 0), (.bipush 6, [], 0), (.imul, [], 0), (.istore 6, [], 0), (.nop, [1], 0)],
  [(.iload 6, [], 0), (.iload_n 3, [], 0), (.bipush 6, [], 0), (.imul, [], 0), (.aload_n 0, [], 0), (.getfield 23, [4, 0], 0), (.getfield 75, [8, 0], 0), (.iadd, [], 0), (.if_icmp .ge 41, [3], 0), (.aload_n 2, [], 0), (.iload 6, [], 0), (.iaload, [], 0), (.ifCond .lt 28, [2], 0), (.aload_n 1, [], 0), (.aload_n 2, [], 0), (.iload 6, [], 0), (.iaload, [], 0), (.iaload, [], 0), (.iload 4, [], 0), (.iadd, [], 0), (.iload 5, [], 0), (.if_icmp .ge 14, [2], 0), (.aload_n 1, [], 0), (.aload_n 2, [], 0), (.iload 6, [], 0), (.iaload, [], 0), (.iaload, [], 0), (.iload 4, [], 0), (.iadd, [], 0), (.istore 5, [], 0), (.nop, [2], 0)],
  [(.iinc 6 1, [], 0), (.goto (-52), [1], 0)],
  [(.iload 5, [], 0), (.ireturn, [0], 0)]]
def am_s96 : List Nat := [0, 11, 60, 66]
/-- WashLine$Steps.grow([I)V -/
def am_b97 : List (List am_I) := [[(.iconst 1, [], 0), (.istore_n 2, [], 0), (.iconst 0, [], 0), (.istore_n 3, [], 0), (.nop, [1], 0)],
  [(.iload_n 2, [], 0), (.ifCond .eq 50, [5], 0), (.iload_n 3, [], 0), (.bipush 64, [], 0), (.if_icmp .ge 44, [5], 0), (.iconst 0, [], 0), (.istore_n 2, [], 0), (.iconst 0, [], 0), (.istore 4, [], 0), (.nop, [2], 0)],
  [(.iload 4, [], 0), (.aload_n 0, [], 0), (.getfield 27, [4, 1], 0), (.getfield 31, [0, 1], 0), (.if_icmp .ge 21, [4], 0), (.aload_n 0, [], 0), (.aload_n 1, [], 0), (.iload 4, [], 0), (.invokevirtual 78, [98, 3, 4], 3), (.ifCond .eq 5, [3], 0), (.iconst 1, [], 0), (.istore_n 2, [], 0), (.nop, [3], 0)],
  [(.iinc 4 1, [], 0), (.goto (-27), [2], 0)],
  [(.iinc 3 1, [], 0), (.goto (-48), [1], 0)],
  [(.return_, [], 0)]]
def am_s97 : List Nat := [0, 4, 19, 43, 49, 55]
/-- WashLine$Steps.growOne([II)Z -/
def am_b98 : List (List am_I) := [[(.aload_n 1, [], 0), (.iload_n 2, [], 0), (.iaload, [], 0), (.aload_n 0, [], 0), (.getfield 23, [4, 0], 0), (.getfield 48, [8, 5], 0), (.iconst 2, [], 0), (.iaload, [], 0), (.iadd, [], 0), (.istore_n 3, [], 0), (.iconst 0, [], 0), (.istore 4, [], 0), (.iload_n 2, [], 0), (.bipush 6, [], 0), (.imul, [], 0), (.istore 5, [], 0), (.nop, [1], 0)],
  [(.iload 5, [], 0), (.iload_n 2, [], 0), (.bipush 6, [], 0), (.imul, [], 0), (.aload_n 0, [], 0), (.getfield 23, [4, 0], 0), (.getfield 75, [8, 0], 0), (.iadd, [], 0), (.if_icmp .ge 54, [3], 0), (.aload_n 0, [], 0), (.getfield 27, [4, 1], 0), (.getfield 82, [0, 7], 0), (.iload 5, [], 0), (.iaload, [], 0), (.ifCond .lt 35, [2], 0), (.iload_n 3, [], 0), (.aload_n 1, [], 0), (.aload_n 0, [], 0), (.getfield 27, [4, 1], 0), (.getfield 82, [0, 7], 0), (.iload 5, [], 0), (.iaload, [], 0), (.iaload, [], 0), (.if_icmp .ge 19, [2], 0), (.aload_n 1, [], 0), (.aload_n 0, [], 0), (.getfield 27, [4, 1], 0), (.getfield 82, [0, 7], 0), (.iload 5, [], 0), (.iaload, [], 0), (.iload_n 3, [], 0), (.iastore, [], 0), (.iconst 1, [], 0), (.istore 4, [], 0), (.nop, [2], 0)],
  [(.iinc 5 1, [], 0), (.goto (-65), [1], 0)],
  [(.iload 4, [], 0), (.ireturn, [1], 0)]]
def am_s98 : List Nat := [0, 23, 85, 91]
/-- WashLine$Steps.fromLess([II)V -/
def am_b99 : List (List am_I) := [[(.iconst 0, [], 0), (.istore_n 3, [], 0), (.nop, [1], 0)],
  [(.iload_n 3, [], 0), (.aload_n 0, [], 0), (.getfield 27, [4, 1], 0), (.getfield 31, [0, 1], 0), (.if_icmp .ge 26, [2], 0), (.aload_n 1, [], 0), (.iload_n 3, [], 0), (.aload_n 0, [], 0), (.aload_n 1, [], 0), (.aload_n 0, [], 0), (.getfield 27, [4, 1], 0), (.getfield 72, [0, 6], 0), (.iload_n 3, [], 0), (.iload_n 2, [], 0), (.invokevirtual 68, [96, 5, 4], 5), (.iastore, [], 0), (.iinc 3 1, [], 0), (.goto (-31), [1], 0)],
  [(.return_, [], 0)]]
def am_s99 : List Nat := [0, 2, 36]
/-- WashLine$Steps.between(II)I -/
def am_b100 : List (List am_I) := [[(.aload_n 0, [], 0), (.getfield 15, [4, 3], 0), (.iload_n 1, [], 0), (.aload_n 0, [], 0), (.getfield 27, [4, 1], 0), (.getfield 31, [0, 1], 0), (.imul, [], 0), (.iload_n 2, [], 0), (.iadd, [], 0), (.baload, [], 0), (.ireturn, [0], 0)]]
def am_s100 : List Nat := [0]
/-- WashLine.plain()I -/
def am_b101 : List (List am_I) := [[(.aload_n 0, [], 0), (.getfield 71, [9, 8], 0), (.invokevirtual 263, [102, 1, 7], 1), (.aload_n 0, [], 0), (.getfield 71, [9, 8], 0), (.invokevirtual 266, [106, 1, 7], 1), (.ifCond .eq 13, [1], 0), (.aload_n 0, [], 0), (.getfield 71, [9, 8], 0), (.getfield 269, [7, 6], 0), (.goto 5, [2], 0)],
  [(.bipush (-9), [], 0), (.nop, [2], 0)],
  [(.ireturn, [0], 0)]]
def am_s101 : List Nat := [0, 27, 29]
/-- WashLine$Winter.weigh()V -/
def am_b102 : List (List am_I) := [[(.aload_n 0, [], 0), (.getfield 9, [7, 4], 0), (.ifCond .eq 4, [1], 0), (.return_, [], 0)],
  [(.aload_n 0, [], 0), (.iconst 1, [], 0), (.putfield 9, [7, 4], 0), (.iconst 0, [], 0), (.istore_n 1, [], 0), (.nop, [2], 0)],
  [(.iload_n 1, [], 0), (.aload_n 0, [], 0), (.getfield 62, [7, 1], 0), (.getfield 75, [1, 0], 0), (.if_icmp .ge 14, [3], 0), (.aload_n 0, [], 0), (.iload_n 1, [], 0), (.invokevirtual 80, [103, 2, 7], 2), (.iinc 1 1, [], 0), (.goto (-19), [2], 0)],
  [(.aload_n 0, [], 0), (.aload_n 0, [], 0), (.invokevirtual 84, [104, 1, 7], 1), (.putfield 18, [7, 6], 0), (.aload_n 0, [], 0), (.invokevirtual 88, [106, 1, 7], 1), (.ifCond .eq 35, [6], 0), (.aload_n 0, [], 0), (.invokevirtual 92, [107, 1, 7], 1), (.iconst 0, [], 0), (.istore_n 1, [], 0), (.nop, [4], 0)],
  [(.iload_n 1, [], 0), (.aload_n 0, [], 0), (.getfield 62, [7, 1], 0), (.getfield 75, [1, 0], 0), (.if_icmp .ge 14, [5], 0), (.aload_n 0, [], 0), (.iload_n 1, [], 0), (.invokevirtual 95, [110, 2, 7], 2), (.iinc 1 1, [], 0), (.goto (-19), [4], 0)],
  [(.aload_n 0, [], 0), (.invokevirtual 98, [112, 1, 7], 1), (.nop, [6], 0)],
  [(.return_, [], 0)]]
def am_s102 : List Nat := [0, 8, 15, 37, 58, 80, 84]
/-- WashLine$Winter.setPrices(I)V -/
def am_b103 : List (List am_I) := [[(.iconst 0, [], 0), (.istore_n 2, [], 0), (.nop, [1], 0)],
  [(.iload_n 2, [], 0), (.aload_n 0, [], 0), (.getfield 58, [7, 0], 0), (.getfield 101, [0, 1], 0), (.if_icmp .ge 50, [4], 0), (.aload_n 0, [], 0), (.getfield 66, [7, 2], 0), (.iload_n 1, [], 0), (.iload_n 2, [], 0), (.invokevirtual 104, [74, 3, 2], 3), (.istore_n 3, [], 0), (.aload_n 0, [], 0), (.getfield 33, [7, 10], 0), (.iload_n 1, [], 0), (.sipush 462, [], 0), (.imul, [], 0), (.iload_n 2, [], 0), (.iadd, [], 0), (.iload_n 3, [], 0), (.bipush (-9), [], 0), (.if_icmp .ne 8, [2], 0), (.ldc 74, [], 1000000), (.goto 11, [3], 0)],
  [(.aload_n 0, [], 0), (.getfield 66, [7, 2], 0), (.iload_n 3, [], 0), (.invokevirtual 110, [81, 2, 2], 2), (.nop, [3], 0)],
  [(.iastore, [], 0), (.iinc 2 1, [], 0), (.goto (-55), [1], 0)],
  [(.return_, [], 0)]]
def am_s103 : List Nat := [0, 2, 45, 53, 60]
/-- WashLine$Winter.goAhead()I -/
def am_b104 : List (List am_I) := [[(.aload_n 0, [], 0), (.getfield 30, [7, 9], 0), (.ldc 74, [], 1000000), (.invokestatic 114, [4, 2], 2), (.aload_n 0, [], 0), (.getfield 30, [7, 9], 0), (.iconst 0, [], 0), (.iconst 0, [], 0), (.iastore, [], 0), (.iconst 0, [], 0), (.istore_n 1, [], 0), (.nop, [1], 0)],
  [(.iload_n 1, [], 0), (.aload_n 0, [], 0), (.getfield 62, [7, 1], 0), (.getfield 75, [1, 0], 0), (.if_icmp .ge 45, [2], 0), (.aload_n 0, [], 0), (.getfield 70, [7, 3], 0), (.aload_n 0, [], 0), (.getfield 30, [7, 9], 0), (.invokevirtual 120, [94, 2, 4], 2), (.aload_n 0, [], 0), (.iload_n 1, [], 0), (.invokevirtual 126, [105, 2, 7], 2), (.aload_n 0, [], 0), (.getfield 30, [7, 9], 0), (.iconst 0, [], 0), (.aload_n 0, [], 0), (.getfield 36, [7, 11], 0), (.iload_n 1, [], 0), (.sipush 462, [], 0), (.imul, [], 0), (.sipush 462, [], 0), (.invokestatic 128, [], 0), (.iinc 1 1, [], 0), (.goto (-50), [1], 0)],
  [(.ldc 74, [], 1000000), (.istore_n 1, [], 0), (.iconst 0, [], 0), (.istore_n 2, [], 0), (.nop, [3], 0)],
  [(.iload_n 2, [], 0), (.aload_n 0, [], 0), (.getfield 58, [7, 0], 0), (.getfield 101, [0, 1], 0), (.if_icmp .ge 20, [4], 0), (.iload_n 1, [], 0), (.aload_n 0, [], 0), (.getfield 30, [7, 9], 0), (.iload_n 2, [], 0), (.iaload, [], 0), (.invokestatic 134, [1], 0), (.istore_n 1, [], 0), (.iinc 2 1, [], 0), (.goto (-25), [3], 0)],
  [(.iload_n 1, [], 0), (.ireturn, [0], 0)]]
def am_s104 : List Nat := [0, 18, 71, 76, 104]
/-- WashLine$Winter.explain(I)V -/
def am_b105 : List (List am_I) := [[(.iconst 0, [], 0), (.istore_n 2, [], 0), (.nop, [1], 0)],
  [(.iload_n 2, [], 0), (.aload_n 0, [], 0), (.getfield 58, [7, 0], 0), (.getfield 101, [0, 1], 0), (.if_icmp .ge 39, [2], 0), (.aload_n 0, [], 0), (.getfield 30, [7, 9], 0), (.iload_n 2, [], 0), (.ldc 74, [], 1000000), (.aload_n 0, [], 0), (.getfield 30, [7, 9], 0), (.iload_n 2, [], 0), (.iaload, [], 0), (.aload_n 0, [], 0), (.getfield 33, [7, 10], 0), (.iload_n 1, [], 0), (.sipush 462, [], 0), (.imul, [], 0), (.iload_n 2, [], 0), (.iadd, [], 0), (.iaload, [], 0), (.iadd, [], 0), (.invokestatic 134, [1], 0), (.iastore, [], 0), (.iinc 2 1, [], 0), (.goto (-44), [1], 0)],
  [(.return_, [], 0)]]
def am_s105 : List Nat := [0, 2, 49]
/-- WashLine$Winter.isTold()Z -/
def am_b106 : List (List am_I) := [[(.aload_n 0, [], 0), (.getfield 18, [7, 6], 0), (.ldc 74, [], 1000000), (.if_icmp .ge 7, [1], 0), (.iconst 1, [], 0), (.goto 4, [2], 0)],
  [(.iconst 0, [], 0), (.nop, [2], 0)],
  [(.ireturn, [1], 0)]]
def am_s106 : List Nat := [0, 13, 14]
/-- WashLine$Winter.goBack()V -/
def am_b107 : List (List am_I) := [[(.aload_n 0, [], 0), (.getfield 30, [7, 9], 0), (.iconst 0, [], 0), (.invokestatic 114, [4, 2], 2), (.aload_n 0, [], 0), (.getfield 62, [7, 1], 0), (.getfield 75, [1, 0], 0), (.iconst 1, [], 0), (.isub, [], 0), (.istore_n 1, [], 0), (.nop, [1], 0)],
  [(.iload_n 1, [], 0), (.ifCond .lt 45, [2], 0), (.aload_n 0, [], 0), (.getfield 30, [7, 9], 0), (.iconst 0, [], 0), (.aload_n 0, [], 0), (.getfield 39, [7, 12], 0), (.iload_n 1, [], 0), (.sipush 462, [], 0), (.imul, [], 0), (.sipush 462, [], 0), (.invokestatic 128, [], 0), (.aload_n 0, [], 0), (.iload_n 1, [], 0), (.invokevirtual 126, [105, 2, 7], 2), (.aload_n 0, [], 0), (.getfield 70, [7, 3], 0), (.aload_n 0, [], 0), (.getfield 30, [7, 9], 0), (.invokevirtual 139, [108, 2, 4], 2), (.iinc 1 (-1), [], 0), (.goto (-43), [1], 0)],
  [(.return_, [], 0)]]
def am_s107 : List Nat := [0, 18, 64]
/-- WashLine$Steps.gather([I)V -/
def am_b108 : List (List am_I) := [[(.aload_n 0, [], 0), (.aload_n 1, [], 0), (.aload_n 0, [], 0), (.getfield 23, [4, 0], 0), (.getfield 48, [8, 5], 0), (.iconst 0, [], 0), (.iaload, [], 0), (.invokevirtual 53, [95, 3, 4], 3), (.aload_n 0, [], 0), (.aload_n 1, [], 0), (.invokevirtual 62, [109, 2, 4], 2), (.aload_n 0, [], 0), (.aload_n 1, [], 0), (.aload_n 0, [], 0), (.getfield 23, [4, 0], 0), (.getfield 48, [8, 5], 0), (.iconst 1, [], 0), (.iaload, [], 0), (.invokevirtual 59, [99, 3, 4], 3), (.return_, [], 0)]]
def am_s108 : List Nat := [0]
/-- WashLine$Steps.growBack([I)V -/
def am_b109 : List (List am_I) := [[(.aload_n 0, [], 0), (.getfield 23, [4, 0], 0), (.getfield 48, [8, 5], 0), (.iconst 2, [], 0), (.iaload, [], 0), (.istore_n 2, [], 0), (.iconst 1, [], 0), (.istore_n 3, [], 0), (.iconst 0, [], 0), (.istore 4, [], 0), (.nop, [1], 0)],
  [(.iload_n 3, [], 0), (.ifCond .eq 74, [5], 0), (.iload 4, [], 0), (.bipush 64, [], 0), (.if_icmp .ge 67, [5], 0), (.iconst 0, [], 0), (.istore_n 3, [], 0), (.aload_n 0, [], 0), (.getfield 27, [4, 1], 0), (.getfield 31, [0, 1], 0), (.iconst 1, [], 0), (.isub, [], 0), (.istore 5, [], 0), (.nop, [2], 0)],
  [(.iload 5, [], 0), (.ifCond .lt 43, [4], 0), (.aload_n 0, [], 0), (.aload_n 1, [], 0), (.aload_n 0, [], 0), (.getfield 27, [4, 1], 0), (.getfield 82, [0, 7], 0), (.iload 5, [], 0), (.iload_n 2, [], 0), (.invokevirtual 68, [96, 5, 4], 5), (.istore 6, [], 0), (.iload 6, [], 0), (.aload_n 1, [], 0), (.iload 5, [], 0), (.iaload, [], 0), (.if_icmp .ge 11, [3], 0), (.aload_n 1, [], 0), (.iload 5, [], 0), (.iload 6, [], 0), (.iastore, [], 0), (.iconst 1, [], 0), (.istore_n 3, [], 0), (.nop, [3], 0)],
  [(.iinc 5 (-1), [], 0), (.goto (-42), [2], 0)],
  [(.iinc 4 1, [], 0), (.goto (-72), [1], 0)],
  [(.return_, [], 0)]]
def am_s109 : List Nat := [0, 15, 39, 78, 84, 90]
/-- WashLine$Winter.list(I)V -/
def am_b110 : List (List am_I) := [[(.iconst 0, [], 0), (.istore_n 2, [], 0), (.iconst 0, [], 0), (.istore_n 3, [], 0), (.nop, [1], 0)],
  [(.iload_n 3, [], 0), (.aload_n 0, [], 0), (.getfield 58, [7, 0], 0), (.getfield 101, [0, 1], 0), (.if_icmp .ge 38, [3], 0), (.aload_n 0, [], 0), (.iload_n 1, [], 0), (.iload_n 3, [], 0), (.invokevirtual 142, [111, 3, 7], 3), (.aload_n 0, [], 0), (.getfield 18, [7, 6], 0), (.if_icmp .ne 19, [2], 0), (.aload_n 0, [], 0), (.getfield 42, [7, 13], 0), (.iload_n 1, [], 0), (.sipush 462, [], 0), (.imul, [], 0), (.iload_n 2, [], 0), (.iadd, [], 0), (.iload_n 3, [], 0), (.iastore, [], 0), (.iinc 2 1, [], 0), (.nop, [2], 0)],
  [(.iinc 3 1, [], 0), (.goto (-43), [1], 0)],
  [(.aload_n 0, [], 0), (.getfield 45, [7, 14], 0), (.iload_n 1, [], 0), (.iload_n 2, [], 0), (.iastore, [], 0), (.return_, [], 0)]]
def am_s110 : List Nat := [0, 4, 44, 50]
/-- WashLine$Winter.costBy(II)I -/
def am_b111 : List (List am_I) := [[(.aload_n 0, [], 0), (.invokevirtual 88, [106, 1, 7], 1), (.ifCond .eq 31, [1], 0), (.aload_n 0, [], 0), (.getfield 36, [7, 11], 0), (.iload_n 1, [], 0), (.sipush 462, [], 0), (.imul, [], 0), (.iload_n 2, [], 0), (.iadd, [], 0), (.iaload, [], 0), (.aload_n 0, [], 0), (.getfield 39, [7, 12], 0), (.iload_n 1, [], 0), (.sipush 462, [], 0), (.imul, [], 0), (.iload_n 2, [], 0), (.iadd, [], 0), (.iaload, [], 0), (.iadd, [], 0), (.goto 5, [2], 0)],
  [(.ldc 74, [], 1000000), (.nop, [2], 0)],
  [(.ireturn, [0], 0)]]
def am_s111 : List Nat := [0, 35, 37]
/-- WashLine$Winter.findFirst()V -/
def am_b112 : List (List am_I) := [[(.iconst 0, [], 0), (.istore_n 1, [], 0), (.nop, [1], 0)],
  [(.iload_n 1, [], 0), (.aload_n 0, [], 0), (.getfield 62, [7, 1], 0), (.getfield 75, [1, 0], 0), (.if_icmp .ge 100, [7], 0), (.iconst 1, [], 0), (.istore_n 2, [], 0), (.iload_n 1, [], 0), (.ifCond .le 18, [2], 0), (.aload_n 0, [], 0), (.getfield 70, [7, 3], 0), (.aload_n 0, [], 0), (.getfield 26, [7, 8], 0), (.iload_n 1, [], 0), (.iconst 1, [], 0), (.isub, [], 0), (.iaload, [], 0), (.invokevirtual 145, [93, 2, 4], 2), (.nop, [2], 0)],
  [(.iconst 0, [], 0), (.istore_n 3, [], 0), (.nop, [3], 0)],
  [(.iload_n 2, [], 0), (.ifCond .eq 67, [6], 0), (.iload_n 3, [], 0), (.aload_n 0, [], 0), (.getfield 45, [7, 14], 0), (.iload_n 1, [], 0), (.iaload, [], 0), (.if_icmp .ge 57, [6], 0), (.aload_n 0, [], 0), (.getfield 42, [7, 13], 0), (.iload_n 1, [], 0), (.sipush 462, [], 0), (.imul, [], 0), (.iload_n 3, [], 0), (.iadd, [], 0), (.iaload, [], 0), (.istore 4, [], 0), (.iload_n 1, [], 0), (.ifCond .eq 23, [4], 0), (.aload_n 0, [], 0), (.iload_n 1, [], 0), (.iconst 1, [], 0), (.isub, [], 0), (.aload_n 0, [], 0), (.getfield 26, [7, 8], 0), (.iload_n 1, [], 0), (.iconst 1, [], 0), (.isub, [], 0), (.iaload, [], 0), (.iload 4, [], 0), (.invokevirtual 148, [113, 4, 7], 4), (.ifCond .eq 13, [5], 0), (.nop, [4], 0)],
  [(.aload_n 0, [], 0), (.getfield 26, [7, 8], 0), (.iload_n 1, [], 0), (.iload 4, [], 0), (.iastore, [], 0), (.iconst 0, [], 0), (.istore_n 2, [], 0), (.nop, [5], 0)],
  [(.iinc 3 1, [], 0), (.goto (-65), [3], 0)],
  [(.iinc 1 1, [], 0), (.goto (-105), [1], 0)],
  [(.return_, [], 0)]]
def am_s112 : List Nat := [0, 2, 34, 36, 88, 98, 104, 110]
/-- WashLine$Winter.follows(III)Z -/
def am_b113 : List (List am_I) := [[(.iload_n 1, [], 0), (.iconst 1, [], 0), (.iadd, [], 0), (.sipush 462, [], 0), (.imul, [], 0), (.iload_n 3, [], 0), (.iadd, [], 0), (.istore 4, [], 0), (.aload_n 0, [], 0), (.getfield 36, [7, 11], 0), (.iload_n 1, [], 0), (.sipush 462, [], 0), (.imul, [], 0), (.iload_n 2, [], 0), (.iadd, [], 0), (.iaload, [], 0), (.aload_n 0, [], 0), (.getfield 70, [7, 3], 0), (.iload_n 2, [], 0), (.iload_n 3, [], 0), (.invokevirtual 152, [100, 3, 4], 3), (.iadd, [], 0), (.aload_n 0, [], 0), (.getfield 33, [7, 10], 0), (.iload 4, [], 0), (.iaload, [], 0), (.iadd, [], 0), (.aload_n 0, [], 0), (.getfield 36, [7, 11], 0), (.iload 4, [], 0), (.iaload, [], 0), (.if_icmp .ne 7, [1], 0), (.iconst 1, [], 0), (.goto 4, [2], 0)],
  [(.iconst 0, [], 0), (.nop, [2], 0)],
  [(.ireturn, [1], 0)]]
def am_s113 : List Nat := [0, 55, 56]
/-- WashLine.tale(I)I -/
def am_b114 : List (List am_I) := [[(.iload_n 1, [], 0), (.invokestatic 108, [22, 1], 1), (.ifCond .ne 5, [1], 0), (.iconst (-1), [], 0), (.ireturn, [0], 0)],
  [(.aload_n 0, [], 0), (.getfield 71, [9, 8], 0), (.invokevirtual 263, [102, 1, 7], 1), (.aload_n 0, [], 0), (.getfield 71, [9, 8], 0), (.invokevirtual 266, [106, 1, 7], 1), (.ifCond .ne 9, [2], 0), (.aload_n 0, [], 0), (.iconst 4, [], 0), (.invokevirtual 112, [24, 2, 9], 2), (.ireturn, [0], 0)],
  [(.aload_n 0, [], 0), (.getfield 11, [9, 0], 0), (.iload_n 1, [], 0), (.aaload, [], 0), (.aload_n 0, [], 0), (.getfield 44, [9, 5], 0), (.getfield 170, [1, 0], 0), (.iconst 0, [], 0), (.invokevirtual 116, [25, 3, 6], 3), (.iconst 0, [], 0), (.istore_n 2, [], 0), (.nop, [3], 0)],
  [(.iload_n 2, [], 0), (.aload_n 0, [], 0), (.getfield 44, [9, 5], 0), (.getfield 170, [1, 0], 0), (.if_icmp .ge 37, [4], 0), (.aload_n 0, [], 0), (.getfield 11, [9, 0], 0), (.iload_n 1, [], 0), (.aaload, [], 0), (.getfield 134, [6, 0], 0), (.iload_n 2, [], 0), (.aload_n 0, [], 0), (.getfield 37, [9, 4], 0), (.getfield 245, [0, 2], 0), (.aload_n 0, [], 0), (.getfield 71, [9, 8], 0), (.getfield 272, [7, 8], 0), (.iload_n 2, [], 0), (.iaload, [], 0), (.iaload, [], 0), (.iastore, [], 0), (.iinc 2 1, [], 0), (.goto (-42), [3], 0)],
  [(.aload_n 0, [], 0), (.getfield 44, [9, 5], 0), (.getfield 170, [1, 0], 0), (.ireturn, [0], 0)]]
def am_s114 : List Nat := [0, 9, 32, 51, 96]
/-- WashLine.ways()I -/
def am_b115 : List (List am_I) := [[(.aload_n 0, [], 0), (.getfield 71, [9, 8], 0), (.invokevirtual 263, [102, 1, 7], 1), (.aload_n 0, [], 0), (.getfield 71, [9, 8], 0), (.invokevirtual 275, [116, 1, 7], 1), (.aload_n 0, [], 0), (.getfield 71, [9, 8], 0), (.getfield 278, [7, 7], 0), (.ldc2_w 281, [], 1000000000000000), (.lcmp, [], 0), (.ifCond .le 6, [1], 0), (.bipush (-6), [], 0), (.ireturn, [0], 0)],
  [(.aload_n 0, [], 0), (.aload_n 0, [], 0), (.getfield 71, [9, 8], 0), (.getfield 278, [7, 7], 0), (.putfield 95, [9, 13], 0), (.aload_n 0, [], 0), (.getfield 71, [9, 8], 0), (.getfield 278, [7, 7], 0), (.lconst 0, [], 0), (.lcmp, [], 0), (.ifCond .le 7, [2], 0), (.iconst 1, [], 0), (.goto 4, [3], 0)],
  [(.iconst 0, [], 0), (.nop, [3], 0)],
  [(.ireturn, [0], 0)]]
def am_s115 : List Nat := [0, 31, 58, 59]
/-- WashLine$Winter.countWays()V -/
def am_b116 : List (List am_I) := [[(.aload_n 0, [], 0), (.getfield 15, [7, 5], 0), (.ifCond .eq 4, [1], 0), (.return_, [], 0)],
  [(.aload_n 0, [], 0), (.iconst 1, [], 0), (.putfield 15, [7, 5], 0), (.aload_n 0, [], 0), (.aload_n 0, [], 0), (.invokevirtual 88, [106, 1, 7], 1), (.ifCond .eq 7, [2], 0), (.lconst 1, [], 0), (.goto 4, [3], 0)],
  [(.lconst 0, [], 0), (.nop, [3], 0)],
  [(.putfield 22, [7, 7], 0), (.aload_n 0, [], 0), (.invokevirtual 88, [106, 1, 7], 1), (.ifCond .eq 119, [9], 0), (.aload_n 0, [], 0), (.getfield 62, [7, 1], 0), (.getfield 75, [1, 0], 0), (.ifCond .le 109, [9], 0), (.aload_n 0, [], 0), (.getfield 62, [7, 1], 0), (.getfield 75, [1, 0], 0), (.iconst 1, [], 0), (.isub, [], 0), (.istore_n 1, [], 0), (.nop, [4], 0)],
  [(.iload_n 1, [], 0), (.ifCond .lt 14, [5], 0), (.aload_n 0, [], 0), (.iload_n 1, [], 0), (.invokevirtual 161, [117, 2, 7], 2), (.iinc 1 (-1), [], 0), (.goto (-12), [4], 0)],
  [(.aload_n 0, [], 0), (.lconst 0, [], 0), (.putfield 22, [7, 7], 0), (.iconst 0, [], 0), (.istore_n 1, [], 0), (.nop, [6], 0)],
  [(.iload_n 1, [], 0), (.aload_n 0, [], 0), (.getfield 45, [7, 14], 0), (.iconst 0, [], 0), (.iaload, [], 0), (.if_icmp .ge 32, [7], 0), (.aload_n 0, [], 0), (.aload_n 0, [], 0), (.getfield 22, [7, 7], 0), (.aload_n 0, [], 0), (.getfield 52, [7, 16], 0), (.aload_n 0, [], 0), (.getfield 42, [7, 13], 0), (.iload_n 1, [], 0), (.iaload, [], 0), (.laload, [], 0), (.ladd, [], 0), (.invokestatic 164, [118, 1], 2), (.putfield 22, [7, 7], 0), (.iinc 1 1, [], 0), (.goto (-36), [6], 0)],
  [(.iconst 0, [], 0), (.istore_n 1, [], 0), (.nop, [8], 0)],
  [(.iload_n 1, [], 0), (.aload_n 0, [], 0), (.getfield 62, [7, 1], 0), (.getfield 75, [1, 0], 0), (.if_icmp .ge 25, [9], 0), (.aload_n 0, [], 0), (.getfield 22, [7, 7], 0), (.ldc2_w 168, [], 1000000000000000), (.lcmp, [], 0), (.ifCond .gt 14, [9], 0), (.aload_n 0, [], 0), (.iload_n 1, [], 0), (.invokevirtual 170, [119, 2, 7], 2), (.iinc 1 1, [], 0), (.goto (-30), [8], 0)],
  [(.return_, [], 0)]]
def am_s116 : List Nat := [0, 8, 25, 26, 56, 71, 78, 117, 119, 152]
/-- WashLine$Winter.countOn(I)V -/
def am_b117 : List (List am_I) := [[(.iload_n 1, [], 0), (.aload_n 0, [], 0), (.getfield 62, [7, 1], 0), (.getfield 75, [1, 0], 0), (.iconst 1, [], 0), (.isub, [], 0), (.if_icmp .ne 7, [1], 0), (.iconst 1, [], 0), (.goto 4, [2], 0)],
  [(.iconst 0, [], 0), (.nop, [2], 0)],
  [(.istore_n 2, [], 0), (.iconst 0, [], 0), (.istore_n 3, [], 0), (.nop, [3], 0)],
  [(.iload_n 3, [], 0), (.aload_n 0, [], 0), (.getfield 45, [7, 14], 0), (.iload_n 1, [], 0), (.iaload, [], 0), (.if_icmp .ge 136, [9], 0), (.aload_n 0, [], 0), (.getfield 42, [7, 13], 0), (.iload_n 1, [], 0), (.sipush 462, [], 0), (.imul, [], 0), (.iload_n 3, [], 0), (.iadd, [], 0), (.iaload, [], 0), (.istore 4, [], 0), (.iload_n 2, [], 0), (.ifCond .eq 7, [4], 0), (.lconst 1, [], 0), (.goto 4, [5], 0)],
  [(.lconst 0, [], 0), (.nop, [5], 0)],
  [(.lstore 5, [], 0), (.aload_n 0, [], 0), (.getfield 70, [7, 3], 0), (.iload 4, [], 0), (.invokevirtual 145, [93, 2, 4], 2), (.iconst 0, [], 0), (.istore 7, [], 0), (.nop, [6], 0)],
  [(.iload_n 2, [], 0), (.ifCond .ne 74, [8], 0), (.iload 7, [], 0), (.aload_n 0, [], 0), (.getfield 45, [7, 14], 0), (.iload_n 1, [], 0), (.iconst 1, [], 0), (.iadd, [], 0), (.iaload, [], 0), (.if_icmp .ge 61, [8], 0), (.aload_n 0, [], 0), (.getfield 42, [7, 13], 0), (.iload_n 1, [], 0), (.iconst 1, [], 0), (.iadd, [], 0), (.sipush 462, [], 0), (.imul, [], 0), (.iload 7, [], 0), (.iadd, [], 0), (.iaload, [], 0), (.istore 8, [], 0), (.aload_n 0, [], 0), (.iload_n 1, [], 0), (.iload 4, [], 0), (.iload 8, [], 0), (.invokevirtual 148, [113, 4, 7], 4), (.ifCond .eq 26, [7], 0), (.lload 5, [], 0), (.aload_n 0, [], 0), (.getfield 52, [7, 16], 0), (.iload_n 1, [], 0), (.iconst 1, [], 0), (.iadd, [], 0), (.sipush 462, [], 0), (.imul, [], 0), (.iload 8, [], 0), (.iadd, [], 0), (.laload, [], 0), (.ladd, [], 0), (.invokestatic 164, [118, 1], 2), (.lstore 5, [], 0), (.nop, [7], 0)],
  [(.iinc 7 1, [], 0), (.goto (-72), [6], 0)],
  [(.aload_n 0, [], 0), (.getfield 52, [7, 16], 0), (.iload_n 1, [], 0), (.sipush 462, [], 0), (.imul, [], 0), (.iload 4, [], 0), (.iadd, [], 0), (.lload 5, [], 0), (.lastore, [], 0), (.iinc 3 1, [], 0), (.goto (-140), [3], 0)],
  [(.return_, [], 0)]]
def am_s117 : List Nat := [0, 17, 18, 21, 53, 54, 68, 137, 143, 164]
/-- WashLine$Winter.capped(J)J -/
def am_b118 : List (List am_I) := [[(.lload_n 0, [], 0), (.ldc2_w 173, [], 1000000000000001), (.invokestatic 175, [2], 0), (.lreturn, [], 0)]]
def am_s118 : List Nat := [0]
/-- WashLine$Winter.countTo(I)V -/
def am_b119 : List (List am_I) := [[(.iconst 0, [], 0), (.istore_n 2, [], 0), (.nop, [1], 0)],
  [(.iload_n 2, [], 0), (.aload_n 0, [], 0), (.getfield 45, [7, 14], 0), (.iload_n 1, [], 0), (.iaload, [], 0), (.if_icmp .ge 126, [7], 0), (.aload_n 0, [], 0), (.getfield 42, [7, 13], 0), (.iload_n 1, [], 0), (.sipush 462, [], 0), (.imul, [], 0), (.iload_n 2, [], 0), (.iadd, [], 0), (.iaload, [], 0), (.istore_n 3, [], 0), (.iload_n 1, [], 0), (.ifCond .ne 7, [2], 0), (.lconst 1, [], 0), (.goto 4, [3], 0)],
  [(.lconst 0, [], 0), (.nop, [3], 0)],
  [(.lstore 4, [], 0), (.iconst 0, [], 0), (.istore 6, [], 0), (.nop, [4], 0)],
  [(.iload_n 1, [], 0), (.ifCond .le 75, [6], 0), (.iload 6, [], 0), (.aload_n 0, [], 0), (.getfield 45, [7, 14], 0), (.iload_n 1, [], 0), (.iconst 1, [], 0), (.isub, [], 0), (.iaload, [], 0), (.if_icmp .ge 62, [6], 0), (.aload_n 0, [], 0), (.getfield 42, [7, 13], 0), (.iload_n 1, [], 0), (.iconst 1, [], 0), (.isub, [], 0), (.sipush 462, [], 0), (.imul, [], 0), (.iload 6, [], 0), (.iadd, [], 0), (.iaload, [], 0), (.istore 7, [], 0), (.aload_n 0, [], 0), (.iload_n 1, [], 0), (.iconst 1, [], 0), (.isub, [], 0), (.iload 7, [], 0), (.iload_n 3, [], 0), (.invokevirtual 148, [113, 4, 7], 4), (.ifCond .eq 26, [5], 0), (.lload 4, [], 0), (.aload_n 0, [], 0), (.getfield 48, [7, 15], 0), (.iload_n 1, [], 0), (.iconst 1, [], 0), (.isub, [], 0), (.sipush 462, [], 0), (.imul, [], 0), (.iload 7, [], 0), (.iadd, [], 0), (.laload, [], 0), (.ladd, [], 0), (.invokestatic 164, [118, 1], 2), (.lstore 4, [], 0), (.nop, [5], 0)],
  [(.iinc 6 1, [], 0), (.goto (-73), [4], 0)],
  [(.aload_n 0, [], 0), (.getfield 48, [7, 15], 0), (.iload_n 1, [], 0), (.sipush 462, [], 0), (.imul, [], 0), (.iload_n 3, [], 0), (.iadd, [], 0), (.lload 4, [], 0), (.lastore, [], 0), (.iinc 2 1, [], 0), (.goto (-130), [1], 0)],
  [(.return_, [], 0)]]
def am_s119 : List Nat := [0, 2, 33, 34, 39, 109, 115, 135]
/-- WashLine.sure(II)I -/
def am_b120 : List (List am_I) := [[(.aload_n 0, [], 0), (.iload_n 1, [], 0), (.invokevirtual 213, [66, 2, 9], 2), (.ifCond .eq 11, [1], 0), (.aload_n 0, [], 0), (.iload_n 2, [], 0), (.invokevirtual 179, [56, 2, 9], 2), (.ifCond .ne 5, [2], 0), (.nop, [1], 0)],
  [(.iconst (-1), [], 0), (.ireturn, [0], 0)],
  [(.aload_n 0, [], 0), (.getfield 71, [9, 8], 0), (.invokevirtual 263, [102, 1, 7], 1), (.aload_n 0, [], 0), (.getfield 71, [9, 8], 0), (.invokevirtual 266, [106, 1, 7], 1), (.ifCond .ne 9, [3], 0), (.aload_n 0, [], 0), (.iconst 4, [], 0), (.invokevirtual 112, [24, 2, 9], 2), (.ireturn, [0], 0)],
  [(.aload_n 0, [], 0), (.aload_n 0, [], 0), (.getfield 71, [9, 8], 0), (.iload_n 1, [], 0), (.iload_n 2, [], 0), (.invokevirtual 283, [121, 3, 7], 3), (.aload_n 0, [], 0), (.getfield 71, [9, 8], 0), (.iload_n 1, [], 0), (.iload_n 2, [], 0), (.invokevirtual 286, [122, 3, 7], 3), (.invokevirtual 131, [30, 3, 9], 3), (.ireturn, [0], 0)]]
def am_s120 : List Nat := [0, 16, 18, 41]
/-- WashLine$Winter.mostOf(II)I -/
def am_b121 : List (List am_I) := [[(.iconst 0, [], 0), (.istore_n 3, [], 0), (.iconst 0, [], 0), (.istore 4, [], 0), (.nop, [1], 0)],
  [(.iload 4, [], 0), (.aload_n 0, [], 0), (.getfield 45, [7, 14], 0), (.iload_n 1, [], 0), (.iaload, [], 0), (.if_icmp .ge 40, [2], 0), (.iload_n 3, [], 0), (.aload_n 0, [], 0), (.getfield 58, [7, 0], 0), (.getfield 155, [0, 4], 0), (.aload_n 0, [], 0), (.getfield 42, [7, 13], 0), (.iload_n 1, [], 0), (.sipush 462, [], 0), (.imul, [], 0), (.iload 4, [], 0), (.iadd, [], 0), (.iaload, [], 0), (.bipush 6, [], 0), (.imul, [], 0), (.iload_n 2, [], 0), (.iadd, [], 0), (.iaload, [], 0), (.invokestatic 158, [0], 0), (.istore_n 3, [], 0), (.iinc 4 1, [], 0), (.goto (-45), [1], 0)],
  [(.iload_n 3, [], 0), (.ireturn, [0], 0)]]
def am_s121 : List Nat := [0, 5, 53]
/-- WashLine$Winter.leastOf(II)I -/
def am_b122 : List (List am_I) := [[(.iconst 5, [], 0), (.istore_n 3, [], 0), (.iconst 0, [], 0), (.istore 4, [], 0), (.nop, [1], 0)],
  [(.iload 4, [], 0), (.aload_n 0, [], 0), (.getfield 45, [7, 14], 0), (.iload_n 1, [], 0), (.iaload, [], 0), (.if_icmp .ge 40, [2], 0), (.iload_n 3, [], 0), (.aload_n 0, [], 0), (.getfield 58, [7, 0], 0), (.getfield 155, [0, 4], 0), (.aload_n 0, [], 0), (.getfield 42, [7, 13], 0), (.iload_n 1, [], 0), (.sipush 462, [], 0), (.imul, [], 0), (.iload 4, [], 0), (.iadd, [], 0), (.iaload, [], 0), (.bipush 6, [], 0), (.imul, [], 0), (.iload_n 2, [], 0), (.iadd, [], 0), (.iaload, [], 0), (.invokestatic 134, [1], 0), (.istore_n 3, [], 0), (.iinc 4 1, [], 0), (.goto (-45), [1], 0)],
  [(.iload_n 3, [], 0), (.ireturn, [0], 0)]]
def am_s122 : List Nat := [0, 5, 53]
/-- WashLine.share(III)I -/
def am_b123 : List (List am_I) := [[(.aload_n 0, [], 0), (.iload_n 1, [], 0), (.invokevirtual 213, [66, 2, 9], 2), (.ifCond .eq 19, [1], 0), (.aload_n 0, [], 0), (.iload_n 2, [], 0), (.invokevirtual 179, [56, 2, 9], 2), (.ifCond .eq 11, [1], 0), (.iload_n 3, [], 0), (.iconst 5, [], 0), (.invokestatic 197, [23, 2], 2), (.ifCond .ne 5, [2], 0), (.nop, [1], 0)],
  [(.iconst (-1), [], 0), (.ireturn, [0], 0)],
  [(.aload_n 0, [], 0), (.getfield 71, [9, 8], 0), (.invokevirtual 263, [102, 1, 7], 1), (.aload_n 0, [], 0), (.getfield 71, [9, 8], 0), (.invokevirtual 266, [106, 1, 7], 1), (.ifCond .ne 9, [3], 0), (.aload_n 0, [], 0), (.iconst 4, [], 0), (.invokevirtual 112, [24, 2, 9], 2), (.ireturn, [0], 0)],
  [(.aload_n 0, [], 0), (.getfield 71, [9, 8], 0), (.invokevirtual 275, [116, 1, 7], 1), (.aload_n 0, [], 0), (.getfield 71, [9, 8], 0), (.getfield 278, [7, 7], 0), (.ldc2_w 281, [], 1000000000000000), (.lcmp, [], 0), (.ifCond .le 6, [4], 0), (.bipush (-6), [], 0), (.ireturn, [0], 0)],
  [(.aload_n 0, [], 0), (.aload_n 0, [], 0), (.getfield 71, [9, 8], 0), (.iload_n 1, [], 0), (.iload_n 2, [], 0), (.iload_n 3, [], 0), (.invokevirtual 289, [124, 4, 7], 4), (.aload_n 0, [], 0), (.getfield 71, [9, 8], 0), (.getfield 278, [7, 7], 0), (.invokevirtual 293, [125, 3, 9], 5), (.iconst 1, [], 0), (.ireturn, [0], 0)]]
def am_s123 : List Nat := [0, 24, 26, 49, 73]
/-- WashLine$Winter.having(III)J -/
def am_b124 : List (List am_I) := [[(.lconst 0, [], 0), (.lstore 4, [], 0), (.iconst 0, [], 0), (.istore 6, [], 0), (.nop, [1], 0)],
  [(.iload 6, [], 0), (.aload_n 0, [], 0), (.getfield 45, [7, 14], 0), (.iload_n 1, [], 0), (.iaload, [], 0), (.if_icmp .ge 75, [3], 0), (.aload_n 0, [], 0), (.getfield 42, [7, 13], 0), (.iload_n 1, [], 0), (.sipush 462, [], 0), (.imul, [], 0), (.iload 6, [], 0), (.iadd, [], 0), (.iaload, [], 0), (.istore 7, [], 0), (.aload_n 0, [], 0), (.getfield 58, [7, 0], 0), (.getfield 155, [0, 4], 0), (.iload 7, [], 0), (.bipush 6, [], 0), (.imul, [], 0), (.iload_n 2, [], 0), (.iadd, [], 0), (.iaload, [], 0), (.iload_n 3, [], 0), (.if_icmp .ne 35, [2], 0), (.lload 4, [], 0), (.aload_n 0, [], 0), (.getfield 48, [7, 15], 0), (.iload_n 1, [], 0), (.sipush 462, [], 0), (.imul, [], 0), (.iload 7, [], 0), (.iadd, [], 0), (.laload, [], 0), (.aload_n 0, [], 0), (.getfield 52, [7, 16], 0), (.iload_n 1, [], 0), (.sipush 462, [], 0), (.imul, [], 0), (.iload 7, [], 0), (.iadd, [], 0), (.laload, [], 0), (.lmul, [], 0), (.ladd, [], 0), (.lstore 4, [], 0), (.nop, [2], 0)],
  [(.iinc 6 1, [], 0), (.goto (-80), [1], 0)],
  [(.lload 4, [], 0), (.lreturn, [], 0)]]
def am_s124 : List Nat := [0, 6, 83, 89]
/-- WashLine.tellFraction(JJ)V -/
def am_b125 : List (List am_I) := [[(.lload_n 1, [], 0), (.lload_n 3, [], 0), (.invokestatic 359, [126, 2], 4), (.lstore 5, [], 0), (.lload 5, [], 0), (.lconst 0, [], 0), (.lcmp, [], 0), (.ifCond .le 19, [1], 0), (.aload_n 0, [], 0), (.lload_n 1, [], 0), (.lload 5, [], 0), (.ldiv, [], 0), (.putfield 99, [9, 14], 0), (.aload_n 0, [], 0), (.lload_n 3, [], 0), (.lload 5, [], 0), (.ldiv, [], 0), (.putfield 102, [9, 15], 0), (.nop, [1], 0)],
  [(.return_, [], 0)]]
def am_s125 : List Nat := [0, 30]
/-- WashLine.commonDivisor(JJ)J -/
def am_b126 : List (List am_I) := [[(.lload_n 2, [], 0), (.lstore 4, [], 0), (.lload_n 0, [], 0), (.lstore 6, [], 0), (.iconst 0, [], 0), (.istore 8, [], 0), (.nop, [1], 0)],
  [(.iload 8, [], 0), (.sipush 200, [], 0), (.if_icmp .ge 31, [2], 0), (.lload 6, [], 0), (.lconst 0, [], 0), (.lcmp, [], 0), (.ifCond .eq 24, [2], 0), (.lload 4, [], 0), (.lload 6, [], 0), (.lrem, [], 0), (.lstore 9, [], 0), (.lload 6, [], 0), (.lstore 4, [], 0), (.lload 9, [], 0), (.lstore 6, [], 0), (.iinc 8 1, [], 0), (.goto (-33), [1], 0)],
  [(.lload 4, [], 0), (.lreturn, [], 0)]]
def am_s126 : List Nat := [0, 9, 45]
/-- WashLine.through(II)I -/
def am_b127 : List (List am_I) := [[(.aload_n 0, [], 0), (.getfield 37, [9, 4], 0), (.iload_n 2, [], 0), (.invokevirtual 222, [13, 2, 0], 2), (.istore_n 3, [], 0), (.iload_n 3, [], 0), (.ifCond .lt 11, [1], 0), (.aload_n 0, [], 0), (.iload_n 1, [], 0), (.invokevirtual 213, [66, 2, 9], 2), (.ifCond .ne 5, [2], 0), (.nop, [1], 0)],
  [(.iconst (-1), [], 0), (.ireturn, [0], 0)],
  [(.aload_n 0, [], 0), (.getfield 71, [9, 8], 0), (.invokevirtual 263, [102, 1, 7], 1), (.aload_n 0, [], 0), (.getfield 71, [9, 8], 0), (.iload_n 1, [], 0), (.iload_n 3, [], 0), (.invokevirtual 297, [111, 3, 7], 3), (.istore 4, [], 0), (.iload 4, [], 0), (.ldc_w 300, [], 1000000), (.if_icmp .ge 8, [3], 0), (.iload 4, [], 0), (.goto 5, [4], 0)],
  [(.bipush (-9), [], 0), (.nop, [4], 0)],
  [(.ireturn, [0], 0)]]
def am_s127 : List Nat := [0, 21, 23, 54, 56]
/-- WashLine.rival(I)I -/
def am_b128 : List (List am_I) := [[(.aload_n 0, [], 0), (.iload_n 1, [], 0), (.invokevirtual 213, [66, 2, 9], 2), (.ifCond .ne 5, [1], 0), (.iconst (-1), [], 0), (.ireturn, [0], 0)],
  [(.aload_n 0, [], 0), (.getfield 71, [9, 8], 0), (.invokevirtual 263, [102, 1, 7], 1), (.aload_n 0, [], 0), (.getfield 71, [9, 8], 0), (.invokevirtual 266, [106, 1, 7], 1), (.ifCond .ne 9, [2], 0), (.aload_n 0, [], 0), (.iconst 4, [], 0), (.invokevirtual 112, [24, 2, 9], 2), (.ireturn, [0], 0)],
  [(.aload_n 0, [], 0), (.getfield 71, [9, 8], 0), (.iload_n 1, [], 0), (.invokevirtual 301, [129, 2, 7], 2), (.istore_n 2, [], 0), (.iload_n 2, [], 0), (.ifCond .ge 8, [3], 0), (.bipush (-9), [], 0), (.goto 25, [4], 0)],
  [(.aload_n 0, [], 0), (.aload_n 0, [], 0), (.getfield 37, [9, 4], 0), (.getfield 245, [0, 2], 0), (.iload_n 2, [], 0), (.iaload, [], 0), (.aload_n 0, [], 0), (.getfield 71, [9, 8], 0), (.iload_n 1, [], 0), (.iload_n 2, [], 0), (.invokevirtual 297, [111, 3, 7], 3), (.invokevirtual 131, [30, 3, 9], 3), (.nop, [4], 0)],
  [(.ireturn, [0], 0)]]
def am_s128 : List Nat := [0, 10, 33, 51, 73]
/-- WashLine$Winter.other(I)I -/
def am_b129 : List (List am_I) := [[(.iconst (-1), [], 0), (.istore_n 2, [], 0), (.ldc 74, [], 1000000), (.istore_n 3, [], 0), (.iconst 0, [], 0), (.istore 4, [], 0), (.nop, [1], 0)],
  [(.iload 4, [], 0), (.aload_n 0, [], 0), (.getfield 58, [7, 0], 0), (.getfield 101, [0, 1], 0), (.if_icmp .ge 42, [3], 0), (.iload 4, [], 0), (.aload_n 0, [], 0), (.getfield 26, [7, 8], 0), (.iload_n 1, [], 0), (.iaload, [], 0), (.if_icmp .eq 25, [2], 0), (.aload_n 0, [], 0), (.iload_n 1, [], 0), (.iload 4, [], 0), (.invokevirtual 142, [111, 3, 7], 3), (.iload_n 3, [], 0), (.if_icmp .ge 14, [2], 0), (.iload 4, [], 0), (.istore_n 2, [], 0), (.aload_n 0, [], 0), (.iload_n 1, [], 0), (.iload 4, [], 0), (.invokevirtual 142, [111, 3, 7], 3), (.istore_n 3, [], 0), (.nop, [2], 0)],
  [(.iinc 4 1, [], 0), (.goto (-48), [1], 0)],
  [(.iload_n 2, [], 0), (.ireturn, [0], 0)]]
def am_s129 : List Nat := [0, 8, 53, 59]
/-- WashLine.happen(IIII)I -/
def am_b130 : List (List am_I) := [[(.iload_n 1, [], 0), (.bipush 11, [], 0), (.invokestatic 197, [23, 2], 2), (.ifCond .eq 12, [1], 0), (.iload_n 2, [], 0), (.bipush 6, [], 0), (.invokestatic 197, [23, 2], 2), (.ifCond .ne 5, [2], 0), (.nop, [1], 0)],
  [(.iconst (-1), [], 0), (.ireturn, [0], 0)],
  [(.iload_n 2, [], 0), (.bipush 6, [], 0), (.if_icmp .ne 26, [4], 0), (.iload_n 3, [], 0), (.invokestatic 182, [57, 1], 1), (.ifCond .eq 17, [3], 0), (.iload 4, [], 0), (.invokestatic 182, [57, 1], 1), (.ifCond .eq 9, [3], 0), (.iload_n 3, [], 0), (.iload 4, [], 0), (.if_icmp .ne 5, [4], 0), (.nop, [3], 0)],
  [(.iconst (-1), [], 0), (.ireturn, [0], 0)],
  [(.iload_n 2, [], 0), (.ifCond .eq 13, [5], 0), (.iload_n 2, [], 0), (.bipush 6, [], 0), (.if_icmp .eq 7, [5], 0), (.iconst 1, [], 0), (.goto 4, [6], 0)],
  [(.iconst 0, [], 0), (.nop, [6], 0)],
  [(.istore 5, [], 0), (.iload 5, [], 0), (.ifCond .eq 13, [7], 0), (.aload_n 0, [], 0), (.iload_n 3, [], 0), (.invokevirtual 179, [56, 2, 9], 2), (.ifCond .ne 5, [7], 0), (.iconst (-1), [], 0), (.ireturn, [0], 0)],
  [(.aload_n 0, [], 0), (.getfield 80, [9, 9], 0), (.getfield 171, [5, 2], 0), (.bipush 16, [], 0), (.if_icmp .lt 6, [8], 0), (.bipush (-2), [], 0), (.ireturn, [0], 0)],
  [(.aload_n 0, [], 0), (.getfield 80, [9, 9], 0), (.iload_n 1, [], 0), (.iload_n 2, [], 0), (.iload_n 2, [], 0), (.ifCond .ne 7, [9], 0), (.iconst 0, [], 0), (.goto 4, [10], 0)],
  [(.iload_n 3, [], 0), (.nop, [10], 0)],
  [(.iload_n 2, [], 0), (.bipush 6, [], 0), (.if_icmp .ne 8, [11], 0), (.iload 4, [], 0), (.goto 4, [12], 0)],
  [(.iconst 0, [], 0), (.nop, [12], 0)],
  [(.invokevirtual 304, [131, 5, 5], 5), (.ireturn, [0], 0)]]
def am_s130 : List Nat := [0, 18, 20, 47, 49, 63, 64, 81, 96, 110, 111, 122, 123]
/-- WashLine$Story.add(IIII)I -/
def am_b131 : List (List am_I) := [[(.aload_n 0, [], 0), (.getfield 15, [5, 3], 0), (.aload_n 0, [], 0), (.getfield 9, [5, 2], 0), (.iload_n 2, [], 0), (.iastore, [], 0), (.aload_n 0, [], 0), (.getfield 19, [5, 4], 0), (.aload_n 0, [], 0), (.getfield 9, [5, 2], 0), (.iload_n 1, [], 0), (.iastore, [], 0), (.aload_n 0, [], 0), (.getfield 22, [5, 5], 0), (.aload_n 0, [], 0), (.getfield 9, [5, 2], 0), (.iload_n 3, [], 0), (.iastore, [], 0), (.aload_n 0, [], 0), (.getfield 25, [5, 6], 0), (.aload_n 0, [], 0), (.getfield 9, [5, 2], 0), (.iload 4, [], 0), (.iastore, [], 0), (.aload_n 0, [], 0), (.dup, [], 0), (.getfield 9, [5, 2], 0), (.iconst 1, [], 0), (.iadd, [], 0), (.putfield 9, [5, 2], 0), (.aload_n 0, [], 0), (.getfield 9, [5, 2], 0), (.iconst 1, [], 0), (.isub, [], 0), (.ireturn, [0], 0)]]
def am_s131 : List Nat := [0]
/-- WashLine.isWithin(II)Z -/
def am_b132 : List (List am_I) := [[(.iload_n 0, [], 0), (.ifCond .lt 12, [1], 0), (.iload_n 0, [], 0), (.iload_n 1, [], 0), (.if_icmp .gt 7, [1], 0), (.iconst 1, [], 0), (.goto 4, [2], 0)],
  [(.iconst 0, [], 0), (.nop, [2], 0)],
  [(.ireturn, [1], 0)]]
def am_s132 : List Nat := [0, 13, 14]
/-- WashLine.isWithin(II)Z -/
def am_b133 : List (List am_I) := [[(.iload_n 0, [], 0), (.ifCond .lt 12, [1], 0), (.iload_n 0, [], 0), (.iload_n 1, [], 0), (.if_icmp .gt 7, [1], 0), (.iconst 1, [], 0), (.goto 4, [2], 0)],
  [(.iconst 0, [], 0), (.nop, [2], 0)],
  [(.ireturn, [1], 0)]]
def am_s133 : List Nat := [0, 13, 14]
/-- WashLine.isWithin(II)Z -/
def am_b134 : List (List am_I) := [[(.iload_n 0, [], 0), (.ifCond .lt 12, [1], 0), (.iload_n 0, [], 0), (.iload_n 1, [], 0), (.if_icmp .gt 7, [1], 0), (.iconst 1, [], 0), (.goto 4, [2], 0)],
  [(.iconst 0, [], 0), (.nop, [2], 0)],
  [(.ireturn, [1], 0)]]
def am_s134 : List Nat := [0, 13, 14]
/-- WashLine.isWithin(II)Z -/
def am_b135 : List (List am_I) := [[(.iload_n 0, [], 0), (.ifCond .lt 12, [1], 0), (.iload_n 0, [], 0), (.iload_n 1, [], 0), (.if_icmp .gt 7, [1], 0), (.iconst 1, [], 0), (.goto 4, [2], 0)],
  [(.iconst 0, [], 0), (.nop, [2], 0)],
  [(.ireturn, [1], 0)]]
def am_s135 : List Nat := [0, 13, 14]
/-- WashLine.isWithin(II)Z -/
def am_b136 : List (List am_I) := [[(.iload_n 0, [], 0), (.ifCond .lt 12, [1], 0), (.iload_n 0, [], 0), (.iload_n 1, [], 0), (.if_icmp .gt 7, [1], 0), (.iconst 1, [], 0), (.goto 4, [2], 0)],
  [(.iconst 0, [], 0), (.nop, [2], 0)],
  [(.ireturn, [1], 0)]]
def am_s136 : List Nat := [0, 13, 14]
/-- WashLine.isWithin(II)Z -/
def am_b137 : List (List am_I) := [[(.iload_n 0, [], 0), (.ifCond .lt 12, [1], 0), (.iload_n 0, [], 0), (.iload_n 1, [], 0), (.if_icmp .gt 7, [1], 0), (.iconst 1, [], 0), (.goto 4, [2], 0)],
  [(.iconst 0, [], 0), (.nop, [2], 0)],
  [(.ireturn, [1], 0)]]
def am_s137 : List Nat := [0, 13, 14]
/-- WashLine$Story.live(I)Z -/
def am_b138 : List (List am_I) := [[(.aload_n 0, [], 0), (.getfield 28, [5, 7], 0), (.iconst 0, [], 0), (.invokestatic 60, [4, 2], 2), (.iconst 0, [], 0), (.istore_n 2, [], 0), (.nop, [1], 0)],
  [(.iload_n 2, [], 0), (.iload_n 1, [], 0), (.if_icmp .gt 45, [5], 0), (.iconst 0, [], 0), (.istore_n 3, [], 0), (.nop, [2], 0)],
  [(.iload_n 3, [], 0), (.aload_n 0, [], 0), (.getfield 9, [5, 2], 0), (.if_icmp .ge 29, [4], 0), (.aload_n 0, [], 0), (.getfield 19, [5, 4], 0), (.iload_n 3, [], 0), (.iaload, [], 0), (.iload_n 2, [], 0), (.if_icmp .ne 13, [3], 0), (.aload_n 0, [], 0), (.iload_n 3, [], 0), (.invokevirtual 66, [139, 2, 5], 2), (.ifCond .ne 5, [3], 0), (.iconst 0, [], 0), (.ireturn, [1], 0)],
  [(.iinc 3 1, [], 0), (.goto (-31), [2], 0)],
  [(.iinc 2 1, [], 0), (.goto (-44), [1], 0)],
  [(.iconst 1, [], 0), (.ireturn, [1], 0)]]
def am_s138 : List Nat := [0, 10, 17, 45, 51, 57]
/-- WashLine$Story.comesTrue(I)Z -/
def am_b139 : List (List am_I) := [[(.aload_n 0, [], 0), (.getfield 15, [5, 3], 0), (.iload_n 1, [], 0), (.iaload, [], 0), (.tableswitch 88 1 3 #[26, 37, 48], [6, 1, 2, 3], 0)],
  [(.aload_n 0, [], 0), (.aload_n 0, [], 0), (.getfield 22, [5, 5], 0), (.iload_n 1, [], 0), (.iaload, [], 0), (.invokevirtual 69, [140, 2, 5], 2), (.ireturn, [1], 0)],
  [(.aload_n 0, [], 0), (.aload_n 0, [], 0), (.getfield 22, [5, 5], 0), (.iload_n 1, [], 0), (.iaload, [], 0), (.invokevirtual 72, [142, 2, 5], 2), (.ireturn, [1], 0)],
  [(.aload_n 0, [], 0), (.aload_n 0, [], 0), (.getfield 22, [5, 5], 0), (.iload_n 1, [], 0), (.iaload, [], 0), (.invokevirtual 72, [142, 2, 5], 2), (.ifCond .eq 28, [4], 0), (.aload_n 0, [], 0), (.aload_n 0, [], 0), (.getfield 40, [5, 0], 0), (.getfield 75, [8, 1], 0), (.aload_n 0, [], 0), (.getfield 22, [5, 5], 0), (.iload_n 1, [], 0), (.iaload, [], 0), (.iaload, [], 0), (.invokevirtual 69, [140, 2, 5], 2), (.ifCond .eq 7, [4], 0), (.iconst 1, [], 0), (.goto 4, [5], 0)],
  [(.iconst 0, [], 0), (.nop, [5], 0)],
  [(.ireturn, [1], 0)],
  [(.iconst 1, [], 0), (.ireturn, [1], 0)]]
def am_s139 : List Nat := [0, 32, 43, 54, 92, 93, 94]
/-- WashLine$Story.join(I)Z -/
def am_b140 : List (List am_I) := [[(.iload_n 1, [], 0), (.ifCond .lt 11, [1], 0), (.aload_n 0, [], 0), (.invokevirtual 56, [141, 1, 5], 1), (.iconst 5, [], 0), (.if_icmp .lt 5, [2], 0), (.nop, [1], 0)],
  [(.iconst 0, [], 0), (.ireturn, [1], 0)],
  [(.aload_n 0, [], 0), (.getfield 28, [5, 7], 0), (.iload_n 1, [], 0), (.dup2, [], 0), (.iaload, [], 0), (.iconst 1, [], 0), (.iadd, [], 0), (.iastore, [], 0), (.iconst 1, [], 0), (.ireturn, [1], 0)]]
def am_s140 : List Nat := [0, 12, 14]
/-- WashLine$Story.everybody()I -/
def am_b141 : List (List am_I) := [[(.iconst 0, [], 0), (.istore_n 1, [], 0), (.aload_n 0, [], 0), (.getfield 28, [5, 7], 0), (.astore_n 2, [], 0), (.aload_n 2, [], 0), (.arraylength, [], 0), (.istore_n 3, [], 0), (.iconst 0, [], 0), (.istore 4, [], 0), (.nop, [1], 0)],
  [(.iload 4, [], 0), (.iload_n 3, [], 0), (.if_icmp .ge 20, [2], 0), (.aload_n 2, [], 0), (.iload 4, [], 0), (.iaload, [], 0), (.istore 5, [], 0), (.iload_n 1, [], 0), (.iload 5, [], 0), (.iadd, [], 0), (.istore_n 1, [], 0), (.iinc 4 1, [], 0), (.goto (-20), [1], 0)],
  [(.iload_n 1, [], 0), (.ireturn, [0], 0)]]
def am_s141 : List Nat := [0, 13, 36]
/-- WashLine$Story.leave(I)Z -/
def am_b142 : List (List am_I) := [[(.aload_n 0, [], 0), (.getfield 28, [5, 7], 0), (.iload_n 1, [], 0), (.iaload, [], 0), (.ifCond .gt 5, [1], 0), (.iconst 0, [], 0), (.ireturn, [1], 0)],
  [(.aload_n 0, [], 0), (.getfield 28, [5, 7], 0), (.iload_n 1, [], 0), (.dup2, [], 0), (.iaload, [], 0), (.iconst 1, [], 0), (.isub, [], 0), (.iastore, [], 0), (.iconst 1, [], 0), (.ireturn, [1], 0)]]
def am_s142 : List Nat := [0, 11]
/-- WashLine.household(I)I -/
def am_b143 : List (List am_I) := [[(.iload_n 1, [], 0), (.bipush 11, [], 0), (.invokestatic 197, [23, 2], 2), (.ifCond .ne 5, [1], 0), (.iconst (-1), [], 0), (.ireturn, [0], 0)],
  [(.aload_n 0, [], 0), (.getfield 80, [9, 9], 0), (.iload_n 1, [], 0), (.invokevirtual 317, [138, 2, 5], 2), (.ifCond .eq 13, [2], 0), (.aload_n 0, [], 0), (.getfield 80, [9, 9], 0), (.invokevirtual 320, [144, 1, 5], 1), (.goto 5, [3], 0)],
  [(.bipush (-9), [], 0), (.nop, [3], 0)],
  [(.ireturn, [0], 0)]]
def am_s143 : List Nat := [0, 11, 32, 34]
/-- WashLine$Story.number()I -/
def am_b144 : List (List am_I) := [[(.iconst 0, [], 0), (.istore_n 1, [], 0), (.iconst 0, [], 0), (.istore_n 2, [], 0), (.nop, [1], 0)],
  [(.iload_n 2, [], 0), (.bipush 6, [], 0), (.if_icmp .ge 24, [2], 0), (.iload_n 1, [], 0), (.aload_n 0, [], 0), (.getfield 28, [5, 7], 0), (.iload_n 2, [], 0), (.iaload, [], 0), (.getstatic 80, [], 0), (.iload_n 2, [], 0), (.iaload, [], 0), (.imul, [], 0), (.iadd, [], 0), (.istore_n 1, [], 0), (.iinc 2 1, [], 0), (.goto (-24), [1], 0)],
  [(.iload_n 1, [], 0), (.ireturn, [0], 0)]]
def am_s144 : List Nat := [0, 4, 31]
/-- WashLine.isWithin(II)Z -/
def am_b145 : List (List am_I) := [[(.iload_n 0, [], 0), (.ifCond .lt 12, [1], 0), (.iload_n 0, [], 0), (.iload_n 1, [], 0), (.if_icmp .gt 7, [1], 0), (.iconst 1, [], 0), (.goto 4, [2], 0)],
  [(.iconst 0, [], 0), (.nop, [2], 0)],
  [(.ireturn, [1], 0)]]
def am_s145 : List Nat := [0, 13, 14]
/-- WashLine.isWithin(II)Z -/
def am_b146 : List (List am_I) := [[(.iload_n 0, [], 0), (.ifCond .lt 12, [1], 0), (.iload_n 0, [], 0), (.iload_n 1, [], 0), (.if_icmp .gt 7, [1], 0), (.iconst 1, [], 0), (.goto 4, [2], 0)],
  [(.iconst 0, [], 0), (.nop, [2], 0)],
  [(.ireturn, [1], 0)]]
def am_s146 : List Nat := [0, 13, 14]
/-- WashLine.isWithin(II)Z -/
def am_b147 : List (List am_I) := [[(.iload_n 0, [], 0), (.ifCond .lt 12, [1], 0), (.iload_n 0, [], 0), (.iload_n 1, [], 0), (.if_icmp .gt 7, [1], 0), (.iconst 1, [], 0), (.goto 4, [2], 0)],
  [(.iconst 0, [], 0), (.nop, [2], 0)],
  [(.ireturn, [1], 0)]]
def am_s147 : List Nat := [0, 13, 14]
/-- WashLine.isWithin(II)Z -/
def am_b148 : List (List am_I) := [[(.iload_n 0, [], 0), (.ifCond .lt 12, [1], 0), (.iload_n 0, [], 0), (.iload_n 1, [], 0), (.if_icmp .gt 7, [1], 0), (.iconst 1, [], 0), (.goto 4, [2], 0)],
  [(.iconst 0, [], 0), (.nop, [2], 0)],
  [(.ireturn, [1], 0)]]
def am_s148 : List Nat := [0, 13, 14]
/-- WashLine.isWithin(II)Z -/
def am_b149 : List (List am_I) := [[(.iload_n 0, [], 0), (.ifCond .lt 12, [1], 0), (.iload_n 0, [], 0), (.iload_n 1, [], 0), (.if_icmp .gt 7, [1], 0), (.iconst 1, [], 0), (.goto 4, [2], 0)],
  [(.iconst 0, [], 0), (.nop, [2], 0)],
  [(.ireturn, [1], 0)]]
def am_s149 : List Nat := [0, 13, 14]
/-- WashLine.isWithin(II)Z -/
def am_b150 : List (List am_I) := [[(.iload_n 0, [], 0), (.ifCond .lt 12, [1], 0), (.iload_n 0, [], 0), (.iload_n 1, [], 0), (.if_icmp .gt 7, [1], 0), (.iconst 1, [], 0), (.goto 4, [2], 0)],
  [(.iconst 0, [], 0), (.nop, [2], 0)],
  [(.ireturn, [1], 0)]]
def am_s150 : List Nat := [0, 13, 14]
/-- WashLine.isWithin(II)Z -/
def am_b151 : List (List am_I) := [[(.iload_n 0, [], 0), (.ifCond .lt 12, [1], 0), (.iload_n 0, [], 0), (.iload_n 1, [], 0), (.if_icmp .gt 7, [1], 0), (.iconst 1, [], 0), (.goto 4, [2], 0)],
  [(.iconst 0, [], 0), (.nop, [2], 0)],
  [(.ireturn, [1], 0)]]
def am_s151 : List Nat := [0, 13, 14]
/-- WashLine.doubts(I)I -/
def am_b152 : List (List am_I) := [[(.aload_n 0, [], 0), (.getfield 37, [9, 4], 0), (.iload_n 1, [], 0), (.invokevirtual 222, [13, 2, 0], 2), (.istore_n 2, [], 0), (.iload_n 2, [], 0), (.ifCond .ge 7, [1], 0), (.iconst (-1), [], 0), (.goto 11, [2], 0)],
  [(.aload_n 0, [], 0), (.getfield 53, [9, 6], 0), (.iload_n 2, [], 0), (.invokevirtual 329, [153, 2, 2], 2), (.nop, [2], 0)],
  [(.ireturn, [0], 0)]]
def am_s152 : List Nat := [0, 17, 25]
/-- WashLine$Looks.doubted(I)I -/
def am_b153 : List (List am_I) := [[(.iconst 0, [], 0), (.istore_n 2, [], 0), (.iconst 0, [], 0), (.istore_n 3, [], 0), (.nop, [1], 0)],
  [(.iload_n 3, [], 0), (.aload_n 0, [], 0), (.getfield 19, [2, 2], 0), (.getfield 107, [1, 0], 0), (.if_icmp .ge 96, [4], 0), (.iconst 0, [], 0), (.istore 4, [], 0), (.nop, [2], 0)],
  [(.iload 4, [], 0), (.bipush 8, [], 0), (.if_icmp .ge 80, [3], 0), (.aload_n 0, [], 0), (.getfield 19, [2, 2], 0), (.getfield 93, [1, 3], 0), (.iload_n 3, [], 0), (.bipush 8, [], 0), (.imul, [], 0), (.iload 4, [], 0), (.iadd, [], 0), (.iaload, [], 0), (.istore 5, [], 0), (.iload_n 2, [], 0), (.iconst 0, [], 0), (.aload_n 0, [], 0), (.getfield 15, [2, 1], 0), (.iload_n 1, [], 0), (.aload_n 0, [], 0), (.getfield 19, [2, 2], 0), (.getfield 49, [1, 1], 0), (.iload_n 3, [], 0), (.iaload, [], 0), (.iload 4, [], 0), (.invokevirtual 86, [71, 4, 0], 4), (.iload 5, [], 0), (.isub, [], 0), (.invokestatic 102, [0], 0), (.iadd, [], 0), (.istore_n 2, [], 0), (.iload_n 2, [], 0), (.iconst 0, [], 0), (.iload 5, [], 0), (.aload_n 0, [], 0), (.getfield 15, [2, 1], 0), (.getfield 27, [0, 9], 0), (.iload_n 1, [], 0), (.bipush 8, [], 0), (.imul, [], 0), (.iload 4, [], 0), (.iadd, [], 0), (.iaload, [], 0), (.isub, [], 0), (.invokestatic 102, [0], 0), (.iadd, [], 0), (.istore_n 2, [], 0), (.iinc 4 1, [], 0), (.goto (-81), [2], 0)],
  [(.iinc 3 1, [], 0), (.goto (-101), [1], 0)],
  [(.iload_n 2, [], 0), (.ireturn, [0], 0)]]
def am_s153 : List Nat := [0, 4, 18, 102, 108]
/-- WashLine.least()I -/
def am_b154 : List (List am_I) := [[(.aload_n 0, [], 0), (.getfield 53, [9, 6], 0), (.invokevirtual 332, [155, 1, 2], 1), (.istore_n 1, [], 0), (.aload_n 0, [], 0), (.aload_n 0, [], 0), (.getfield 53, [9, 6], 0), (.iload_n 1, [], 0), (.invokevirtual 329, [153, 2, 2], 2), (.aload_n 0, [], 0), (.getfield 37, [9, 4], 0), (.getfield 245, [0, 2], 0), (.iload_n 1, [], 0), (.iaload, [], 0), (.invokevirtual 131, [30, 3, 9], 3), (.ireturn, [0], 0)]]
def am_s154 : List Nat := [0]
/-- WashLine$Looks.leastDoubted()I -/
def am_b155 : List (List am_I) := [[(.iconst 0, [], 0), (.istore_n 1, [], 0), (.aload_n 0, [], 0), (.iconst 0, [], 0), (.invokevirtual 108, [153, 2, 2], 2), (.istore_n 2, [], 0), (.iconst 1, [], 0), (.istore_n 3, [], 0), (.nop, [1], 0)],
  [(.iload_n 3, [], 0), (.aload_n 0, [], 0), (.getfield 15, [2, 1], 0), (.getfield 76, [0, 1], 0), (.if_icmp .ge 54, [4], 0), (.aload_n 0, [], 0), (.iload_n 3, [], 0), (.invokevirtual 108, [153, 2, 2], 2), (.istore 4, [], 0), (.iload 4, [], 0), (.iload_n 2, [], 0), (.if_icmp .lt 30, [2], 0), (.iload 4, [], 0), (.iload_n 2, [], 0), (.if_icmp .ne 29, [3], 0), (.aload_n 0, [], 0), (.getfield 15, [2, 1], 0), (.getfield 90, [0, 3], 0), (.iload_n 3, [], 0), (.iaload, [], 0), (.aload_n 0, [], 0), (.getfield 15, [2, 1], 0), (.getfield 90, [0, 3], 0), (.iload_n 1, [], 0), (.iaload, [], 0), (.if_icmp .ge 8, [3], 0), (.nop, [2], 0)],
  [(.iload_n 3, [], 0), (.istore_n 1, [], 0), (.iload 4, [], 0), (.istore_n 2, [], 0), (.nop, [3], 0)],
  [(.iinc 3 1, [], 0), (.goto (-59), [1], 0)],
  [(.iload_n 1, [], 0), (.ireturn, [0], 0)]]
def am_s155 : List Nat := [0, 10, 61, 66, 72]
/-- WashLine.isWithin(II)Z -/
def am_b156 : List (List am_I) := [[(.iload_n 0, [], 0), (.ifCond .lt 12, [1], 0), (.iload_n 0, [], 0), (.iload_n 1, [], 0), (.if_icmp .gt 7, [1], 0), (.iconst 1, [], 0), (.goto 4, [2], 0)],
  [(.iconst 0, [], 0), (.nop, [2], 0)],
  [(.ireturn, [1], 0)]]
def am_s156 : List Nat := [0, 13, 14]
/-- WashLine.isWithin(II)Z -/
def am_b157 : List (List am_I) := [[(.iload_n 0, [], 0), (.ifCond .lt 12, [1], 0), (.iload_n 0, [], 0), (.iload_n 1, [], 0), (.if_icmp .gt 7, [1], 0), (.iconst 1, [], 0), (.goto 4, [2], 0)],
  [(.iconst 0, [], 0), (.nop, [2], 0)],
  [(.ireturn, [1], 0)]]
def am_s157 : List Nat := [0, 13, 14]
/-- WashLine.asked()I -/
def am_b158 : List (List am_I) := [[(.aload_n 0, [], 0), (.getfield 92, [9, 12], 0), (.ireturn, [0], 0)]]
def am_s158 : List Nat := [0]
/-- WashLine.tales()J -/
def am_b159 : List (List am_I) := [[(.aload_n 0, [], 0), (.getfield 95, [9, 13], 0), (.lreturn, [], 0)]]
def am_s159 : List Nat := [0]
/-- WashLine.upper()J -/
def am_b160 : List (List am_I) := [[(.aload_n 0, [], 0), (.getfield 99, [9, 14], 0), (.lreturn, [], 0)]]
def am_s160 : List Nat := [0]
/-- WashLine.lower()J -/
def am_b161 : List (List am_I) := [[(.aload_n 0, [], 0), (.getfield 102, [9, 15], 0), (.lreturn, [], 0)]]
def am_s161 : List Nat := [0]
/-- WashLine.isWithin(II)Z -/
def am_b162 : List (List am_I) := [[(.iload_n 0, [], 0), (.ifCond .lt 12, [1], 0), (.iload_n 0, [], 0), (.iload_n 1, [], 0), (.if_icmp .gt 7, [1], 0), (.iconst 1, [], 0), (.goto 4, [2], 0)],
  [(.iconst 0, [], 0), (.nop, [2], 0)],
  [(.ireturn, [1], 0)]]
def am_s162 : List Nat := [0, 13, 14]
/-- WashLine.isWithin(II)Z -/
def am_b163 : List (List am_I) := [[(.iload_n 0, [], 0), (.ifCond .lt 12, [1], 0), (.iload_n 0, [], 0), (.iload_n 1, [], 0), (.if_icmp .gt 7, [1], 0), (.iconst 1, [], 0), (.goto 4, [2], 0)],
  [(.iconst 0, [], 0), (.nop, [2], 0)],
  [(.ireturn, [1], 0)]]
def am_s163 : List Nat := [0, 13, 14]
/-- WashLine.isWithin(II)Z -/
def am_b164 : List (List am_I) := [[(.iload_n 0, [], 0), (.ifCond .lt 12, [1], 0), (.iload_n 0, [], 0), (.iload_n 1, [], 0), (.if_icmp .gt 7, [1], 0), (.iconst 1, [], 0), (.goto 4, [2], 0)],
  [(.iconst 0, [], 0), (.nop, [2], 0)],
  [(.ireturn, [1], 0)]]
def am_s164 : List Nat := [0, 13, 14]
/-- WashLine.isWithin(II)Z -/
def am_b165 : List (List am_I) := [[(.iload_n 0, [], 0), (.ifCond .lt 12, [1], 0), (.iload_n 0, [], 0), (.iload_n 1, [], 0), (.if_icmp .gt 7, [1], 0), (.iconst 1, [], 0), (.goto 4, [2], 0)],
  [(.iconst 0, [], 0), (.nop, [2], 0)],
  [(.ireturn, [1], 0)]]
def am_s165 : List Nat := [0, 13, 14]
/-- WashLine.isWithin(II)Z -/
def am_b166 : List (List am_I) := [[(.iload_n 0, [], 0), (.ifCond .lt 12, [1], 0), (.iload_n 0, [], 0), (.iload_n 1, [], 0), (.if_icmp .gt 7, [1], 0), (.iconst 1, [], 0), (.goto 4, [2], 0)],
  [(.iconst 0, [], 0), (.nop, [2], 0)],
  [(.ireturn, [1], 0)]]
def am_s166 : List Nat := [0, 13, 14]
/-- WashLine.isWithin(II)Z -/
def am_b167 : List (List am_I) := [[(.iload_n 0, [], 0), (.ifCond .lt 12, [1], 0), (.iload_n 0, [], 0), (.iload_n 1, [], 0), (.if_icmp .gt 7, [1], 0), (.iconst 1, [], 0), (.goto 4, [2], 0)],
  [(.iconst 0, [], 0), (.nop, [2], 0)],
  [(.ireturn, [1], 0)]]
def am_s167 : List Nat := [0, 13, 14]
/-- WashLine.isWithin(II)Z -/
def am_b168 : List (List am_I) := [[(.iload_n 0, [], 0), (.ifCond .lt 12, [1], 0), (.iload_n 0, [], 0), (.iload_n 1, [], 0), (.if_icmp .gt 7, [1], 0), (.iconst 1, [], 0), (.goto 4, [2], 0)],
  [(.iconst 0, [], 0), (.nop, [2], 0)],
  [(.ireturn, [1], 0)]]
def am_s168 : List Nat := [0, 13, 14]
/-- WashLine.isWithin(II)Z -/
def am_b169 : List (List am_I) := [[(.iload_n 0, [], 0), (.ifCond .lt 12, [1], 0), (.iload_n 0, [], 0), (.iload_n 1, [], 0), (.if_icmp .gt 7, [1], 0), (.iconst 1, [], 0), (.goto 4, [2], 0)],
  [(.iconst 0, [], 0), (.nop, [2], 0)],
  [(.ireturn, [1], 0)]]
def am_s169 : List Nat := [0, 13, 14]
/-- WashLine.isWithin(II)Z -/
def am_b170 : List (List am_I) := [[(.iload_n 0, [], 0), (.ifCond .lt 12, [1], 0), (.iload_n 0, [], 0), (.iload_n 1, [], 0), (.if_icmp .gt 7, [1], 0), (.iconst 1, [], 0), (.goto 4, [2], 0)],
  [(.iconst 0, [], 0), (.nop, [2], 0)],
  [(.ireturn, [1], 0)]]
def am_s170 : List Nat := [0, 13, 14]
/-- WashLine.isWithin(II)Z -/
def am_b171 : List (List am_I) := [[(.iload_n 0, [], 0), (.ifCond .lt 12, [1], 0), (.iload_n 0, [], 0), (.iload_n 1, [], 0), (.if_icmp .gt 7, [1], 0), (.iconst 1, [], 0), (.goto 4, [2], 0)],
  [(.iconst 0, [], 0), (.nop, [2], 0)],
  [(.ireturn, [1], 0)]]
def am_s171 : List Nat := [0, 13, 14]
/-- WashLineLaw.low(II)I -/
def am_b172 : List (List am_I) := [[(.iload_n 0, [], 0), (.ldc 7, [], 2147483647), (.iand, [], 0), (.iload_n 1, [], 0), (.irem, [], 0), (.ireturn, [0], 0)]]
def am_s172 : List Nat := [0]
/-- WashLineLaw.cell([II)I -/
def am_b173 : List (List am_I) := [[(.iload_n 1, [], 0), (.aload_n 0, [], 0), (.arraylength, [], 0), (.if_icmp .ge 9, [1], 0), (.aload_n 0, [], 0), (.iload_n 1, [], 0), (.iaload, [], 0), (.goto 11, [2], 0)],
  [(.ldc 8, [], 40503), (.iload_n 1, [], 0), (.imul, [], 0), (.sipush 977, [], 0), (.iadd, [], 0), (.nop, [2], 0)],
  [(.ireturn, [0], 0)]]
def am_s173 : List Nat := [0, 12, 20]
/-- WashLineLaw.told(LWashLine;I)I -/
def am_b174 : List (List am_I) := [[(.iload_n 1, [], 0), (.iconst 1, [], 0), (.if_icmp .ne 10, [1], 0), (.aload_n 0, [], 0), (.invokevirtual 9, [158, 1, 9], 1), (.goto 6, [2], 0)],
  [(.sipush (-7777), [], 0), (.nop, [2], 0)],
  [(.ireturn, [0], 0)]]
def am_s174 : List Nat := [0, 12, 15]
/-- WashLineLaw.world(LWashLine;[III[I[I[I[I)I -/
def am_b175 : List (List am_I) := [[(.bipush 64, [], 0), (.newarray .int, [], 0), (.astore 8, [], 0), (.iconst 0, [], 0), (.istore 9, [], 0), (.iconst 1, [], 0), (.aload_n 1, [], 0), (.iload_n 2, [], 0), (.invokestatic 15, [173, 2], 2), (.iload_n 3, [], 0), (.invokestatic 21, [172, 2], 2), (.iadd, [], 0), (.istore 10, [], 0), (.iconst 0, [], 0), (.istore 11, [], 0), (.nop, [1], 0)],
  [(.iload 11, [], 0), (.iload 10, [], 0), (.if_icmp .ge 111, [8], 0), (.aload_n 1, [], 0), (.iload_n 2, [], 0), (.iconst 1, [], 0), (.iadd, [], 0), (.iload 11, [], 0), (.iadd, [], 0), (.invokestatic 15, [173, 2], 2), (.istore 12, [], 0), (.aload 4, [], 0), (.iload 11, [], 0), (.iload 12, [], 0), (.iconst 2, [], 0), (.invokestatic 21, [172, 2], 2), (.ifCond .ne 8, [2], 0), (.bipush (-9), [], 0), (.goto 11, [3], 0)],
  [(.iload 12, [], 0), (.iconst 1, [], 0), (.ishr, [], 0), (.iconst 4, [], 0), (.invokestatic 21, [172, 2], 2), (.nop, [3], 0)],
  [(.iastore, [], 0), (.aload 8, [], 0), (.iload 9, [], 0), (.bipush 107, [], 0), (.iastore, [], 0), (.aload 8, [], 0), (.iload 9, [], 0), (.iconst 1, [], 0), (.iadd, [], 0), (.aload 4, [], 0), (.iload 11, [], 0), (.iaload, [], 0), (.ifCond .ge 8, [4], 0), (.bipush 45, [], 0), (.goto 11, [5], 0)],
  [(.bipush 48, [], 0), (.aload 4, [], 0), (.iload 11, [], 0), (.iaload, [], 0), (.iadd, [], 0), (.nop, [5], 0)],
  [(.iastore, [], 0), (.iinc 9 2, [], 0), (.aload 4, [], 0), (.iload 11, [], 0), (.aload 4, [], 0), (.iload 11, [], 0), (.iaload, [], 0), (.iload 10, [], 0), (.if_icmp .lt 8, [6], 0), (.bipush (-9), [], 0), (.goto 8, [7], 0)],
  [(.aload 4, [], 0), (.iload 11, [], 0), (.iaload, [], 0), (.nop, [7], 0)],
  [(.iastore, [], 0), (.iinc 11 1, [], 0), (.goto (-112), [1], 0)],
  [(.iconst 0, [], 0), (.istore 11, [], 0), (.nop, [9], 0)],
  [(.iload 11, [], 0), (.iload 10, [], 0), (.if_icmp .ge 197, [12], 0), (.aload_n 1, [], 0), (.iload_n 2, [], 0), (.iconst 4, [], 0), (.iadd, [], 0), (.iload 11, [], 0), (.iadd, [], 0), (.invokestatic 15, [173, 2], 2), (.istore 12, [], 0), (.iconst 0, [], 0), (.istore 13, [], 0), (.nop, [10], 0)],
  [(.iload 13, [], 0), (.iconst 2, [], 0), (.if_icmp .ge 170, [11], 0), (.iload 12, [], 0), (.iconst 3, [], 0), (.iload 13, [], 0), (.imul, [], 0), (.ishr, [], 0), (.iconst 3, [], 0), (.invokestatic 21, [172, 2], 2), (.istore 14, [], 0), (.iload 12, [], 0), (.bipush 6, [], 0), (.iconst 2, [], 0), (.iload 13, [], 0), (.imul, [], 0), (.iadd, [], 0), (.ishr, [], 0), (.iconst 3, [], 0), (.invokestatic 21, [172, 2], 2), (.istore 15, [], 0), (.iload 15, [], 0), (.iload 12, [], 0), (.bipush 11, [], 0), (.iconst 2, [], 0), (.iload 13, [], 0), (.imul, [], 0), (.iadd, [], 0), (.ishr, [], 0), (.iconst 3, [], 0), (.invokestatic 21, [172, 2], 2), (.iadd, [], 0), (.istore 16, [], 0), (.aload 5, [], 0), (.bipush 8, [], 0), (.iload 11, [], 0), (.imul, [], 0), (.iload 14, [], 0), (.iadd, [], 0), (.iload 15, [], 0), (.iastore, [], 0), (.aload 6, [], 0), (.bipush 8, [], 0), (.iload 11, [], 0), (.imul, [], 0), (.iload 14, [], 0), (.iadd, [], 0), (.iload 16, [], 0), (.iastore, [], 0), (.aload 8, [], 0), (.iload 9, [], 0), (.bipush 119, [], 0), (.iastore, [], 0), (.aload 8, [], 0), (.iload 9, [], 0), (.iconst 1, [], 0), (.iadd, [], 0), (.bipush 48, [], 0), (.iload 11, [], 0), (.iadd, [], 0), (.iastore, [], 0), (.aload 8, [], 0), (.iload 9, [], 0), (.iconst 2, [], 0), (.iadd, [], 0), (.bipush 116, [], 0), (.iastore, [], 0), (.aload 8, [], 0), (.iload 9, [], 0), (.iconst 3, [], 0), (.iadd, [], 0), (.bipush 48, [], 0), (.iload 14, [], 0), (.iadd, [], 0), (.iastore, [], 0), (.aload 8, [], 0), (.iload 9, [], 0), (.iconst 4, [], 0), (.iadd, [], 0), (.bipush 58, [], 0), (.iastore, [], 0), (.aload 8, [], 0), (.iload 9, [], 0), (.iconst 5, [], 0), (.iadd, [], 0), (.bipush 48, [], 0), (.iload 15, [], 0), (.iadd, [], 0), (.iastore, [], 0), (.aload 8, [], 0), (.iload 9, [], 0), (.bipush 6, [], 0), (.iadd, [], 0), (.bipush 45, [], 0), (.iastore, [], 0), (.aload 8, [], 0), (.iload 9, [], 0), (.bipush 7, [], 0), (.iadd, [], 0), (.bipush 48, [], 0), (.iload 16, [], 0), (.iadd, [], 0), (.iastore, [], 0), (.iinc 9 8, [], 0), (.iinc 13 1, [], 0), (.goto (-170), [10], 0)],
  [(.iinc 11 1, [], 0), (.goto (-198), [9], 0)],
  [(.aload_n 1, [], 0), (.iload_n 2, [], 0), (.bipush 7, [], 0), (.iadd, [], 0), (.invokestatic 15, [173, 2], 2), (.istore 11, [], 0), (.aload 7, [], 0), (.iconst 0, [], 0), (.iload 11, [], 0), (.iconst 2, [], 0), (.invokestatic 21, [172, 2], 2), (.ifCond .ne 7, [13], 0), (.iconst 0, [], 0), (.goto 13, [14], 0)],
  [(.iconst 1, [], 0), (.iload 11, [], 0), (.iconst 1, [], 0), (.ishr, [], 0), (.iconst 3, [], 0), (.invokestatic 21, [172, 2], 2), (.ishl, [], 0), (.nop, [14], 0)],
  [(.iastore, [], 0), (.aload 7, [], 0), (.iconst 0, [], 0), (.iaload, [], 0), (.ifCond .le 31, [15], 0), (.aload 8, [], 0), (.iload 9, [], 0), (.bipush 105, [], 0), (.iastore, [], 0), (.aload 8, [], 0), (.iload 9, [], 0), (.iconst 1, [], 0), (.iadd, [], 0), (.bipush 48, [], 0), (.iload 11, [], 0), (.iconst 1, [], 0), (.ishr, [], 0), (.iconst 3, [], 0), (.invokestatic 21, [172, 2], 2), (.iadd, [], 0), (.iastore, [], 0), (.iinc 9 2, [], 0), (.nop, [15], 0)],
  [(.iconst 0, [], 0), (.istore 12, [], 0), (.nop, [16], 0)],
  [(.iload 12, [], 0), (.iconst 5, [], 0), (.if_icmp .ge 37, [20], 0), (.aload 7, [], 0), (.iconst 1, [], 0), (.iload 12, [], 0), (.iadd, [], 0), (.iload 12, [], 0), (.iconst 2, [], 0), (.if_icmp .ge 7, [17], 0), (.iconst 3, [], 0), (.goto 14, [19], 0)],
  [(.iload 12, [], 0), (.iconst 2, [], 0), (.if_icmp .ne 7, [18], 0), (.iconst 1, [], 0), (.goto 4, [19], 0)],
  [(.iconst 2, [], 0), (.nop, [19], 0)],
  [(.iastore, [], 0), (.iinc 12 1, [], 0), (.goto (-37), [16], 0)],
  [(.iload 11, [], 0), (.iconst 4, [], 0), (.ishr, [], 0), (.iconst 2, [], 0), (.invokestatic 21, [172, 2], 2), (.ifCond .ne 67, [22], 0), (.aload 8, [], 0), (.iload 9, [], 0), (.bipush 99, [], 0), (.iastore, [], 0), (.iinc 9 1, [], 0), (.iconst 0, [], 0), (.istore 12, [], 0), (.nop, [21], 0)],
  [(.iload 12, [], 0), (.iconst 5, [], 0), (.if_icmp .ge 48, [22], 0), (.aload 7, [], 0), (.iconst 1, [], 0), (.iload 12, [], 0), (.iadd, [], 0), (.iload 11, [], 0), (.bipush 6, [], 0), (.iconst 3, [], 0), (.iload 12, [], 0), (.imul, [], 0), (.iadd, [], 0), (.ishr, [], 0), (.iconst 5, [], 0), (.invokestatic 21, [172, 2], 2), (.iastore, [], 0), (.aload 8, [], 0), (.iload 9, [], 0), (.bipush 48, [], 0), (.aload 7, [], 0), (.iconst 1, [], 0), (.iload 12, [], 0), (.iadd, [], 0), (.iaload, [], 0), (.iadd, [], 0), (.iastore, [], 0), (.iinc 9 1, [], 0), (.iinc 12 1, [], 0), (.goto (-48), [21], 0)],
  [(.aload_n 0, [], 0), (.iconst 3, [], 0), (.iload 9, [], 0), (.invokevirtual 25, [37, 3, 9], 3), (.iload 9, [], 0), (.if_icmp .ne 7, [23], 0), (.iconst 1, [], 0), (.goto 4, [24], 0)],
  [(.iconst 0, [], 0), (.nop, [24], 0)],
  [(.istore 12, [], 0), (.iconst 0, [], 0), (.istore 13, [], 0), (.nop, [25], 0)],
  [(.iload 13, [], 0), (.iload 9, [], 0), (.if_icmp .ge 39, [28], 0), (.iload 12, [], 0), (.ifCond .eq 34, [28], 0), (.aload_n 0, [], 0), (.iconst 3, [], 0), (.iload 13, [], 0), (.aload 8, [], 0), (.iload 13, [], 0), (.iaload, [], 0), (.invokevirtual 28, [39, 4, 9], 4), (.sipush 1032, [], 0), (.if_icmp .ne 7, [26], 0), (.iconst 1, [], 0), (.goto 4, [27], 0)],
  [(.iconst 0, [], 0), (.nop, [27], 0)],
  [(.istore 12, [], 0), (.iinc 13 1, [], 0), (.goto (-40), [25], 0)],
  [(.iload 12, [], 0), (.ifCond .eq 28, [29], 0), (.aload_n 0, [], 0), (.iconst 3, [], 0), (.invokevirtual 32, [40, 2, 9], 2), (.bipush (-9), [], 0), (.if_icmp .ne 18, [29], 0), (.aload_n 0, [], 0), (.iconst 3, [], 0), (.invokevirtual 36, [51, 2, 9], 2), (.iload 10, [], 0), (.if_icmp .ne 8, [29], 0), (.iload 10, [], 0), (.goto 4, [30], 0)],
  [(.iconst (-1), [], 0), (.nop, [30], 0)],
  [(.ireturn, [0], 0)]]
def am_s175 : List Nat := [0, 25, 62, 70, 97, 105, 128, 133, 140, 143, 165, 338, 344, 370, 380, 416, 419, 441, 451, 452, 459, 483, 534, 550, 551, 556, 590, 591, 599, 629, 630]
/-- WashLineLaw.houses(I)[I -/
def am_b176 : List (List am_I) := [[(.bipush 64, [], 0), (.newarray .int, [], 0), (.astore_n 1, [], 0), (.iload_n 0, [], 0), (.iconst 1, [], 0), (.if_icmp .ne 8, [1], 0), (.bipush 10, [], 0), (.goto 16, [3], 0)],
  [(.iload_n 0, [], 0), (.iconst 2, [], 0), (.if_icmp .ne 8, [2], 0), (.bipush 100, [], 0), (.goto 6, [3], 0)],
  [(.sipush 1000, [], 0), (.nop, [3], 0)],
  [(.istore_n 2, [], 0), (.iconst 0, [], 0), (.istore_n 3, [], 0), (.nop, [4], 0)],
  [(.iload_n 3, [], 0), (.iload_n 2, [], 0), (.if_icmp .ge 45, [6], 0), (.iload_n 3, [], 0), (.bipush 10, [], 0), (.irem, [], 0), (.iload_n 3, [], 0), (.bipush 10, [], 0), (.idiv, [], 0), (.bipush 10, [], 0), (.irem, [], 0), (.iadd, [], 0), (.iload_n 3, [], 0), (.bipush 100, [], 0), (.idiv, [], 0), (.iadd, [], 0), (.iconst 5, [], 0), (.if_icmp .gt 18, [5], 0), (.aload_n 1, [], 0), (.aload_n 1, [], 0), (.bipush 63, [], 0), (.iaload, [], 0), (.iload_n 3, [], 0), (.iastore, [], 0), (.aload_n 1, [], 0), (.bipush 63, [], 0), (.dup2, [], 0), (.iaload, [], 0), (.iconst 1, [], 0), (.iadd, [], 0), (.iastore, [], 0), (.nop, [5], 0)],
  [(.iinc 3 1, [], 0), (.goto (-44), [4], 0)],
  [(.aload_n 1, [], 0), (.areturn, [], 0)]]
def am_s176 : List Nat := [0, 15, 25, 28, 31, 72, 78]
/-- WashLineLaw.mondays(LWashLine;[IIII[I[I[I[I)I -/
def am_b177 : List (List am_I) := [[(.iload 4, [], 0), (.invokestatic 39, [176, 1], 1), (.astore 9, [], 0), (.iconst 1, [], 0), (.aload_n 1, [], 0), (.iload_n 2, [], 0), (.invokestatic 15, [173, 2], 2), (.iload_n 3, [], 0), (.invokestatic 21, [172, 2], 2), (.iadd, [], 0), (.istore 10, [], 0), (.aload 9, [], 0), (.aload_n 1, [], 0), (.iload_n 2, [], 0), (.invokestatic 15, [173, 2], 2), (.iconst 4, [], 0), (.ishr, [], 0), (.aload 9, [], 0), (.bipush 63, [], 0), (.iaload, [], 0), (.invokestatic 21, [172, 2], 2), (.iaload, [], 0), (.istore 11, [], 0), (.iconst 0, [], 0), (.istore 12, [], 0), (.nop, [1], 0)],
  [(.iload 12, [], 0), (.iload 10, [], 0), (.if_icmp .ge 339, [20], 0), (.aload_n 1, [], 0), (.iload_n 2, [], 0), (.iconst 1, [], 0), (.iadd, [], 0), (.iload 12, [], 0), (.iadd, [], 0), (.invokestatic 15, [173, 2], 2), (.istore 13, [], 0), (.iload 13, [], 0), (.iconst 3, [], 0), (.invokestatic 21, [172, 2], 2), (.ifCond .ne 21, [2], 0), (.aload 9, [], 0), (.iload 13, [], 0), (.iconst 2, [], 0), (.ishr, [], 0), (.aload 9, [], 0), (.bipush 63, [], 0), (.iaload, [], 0), (.invokestatic 21, [172, 2], 2), (.iaload, [], 0), (.goto 5, [3], 0)],
  [(.iload 11, [], 0), (.nop, [3], 0)],
  [(.istore 11, [], 0), (.aload 8, [], 0), (.bipush 10, [], 0), (.iload 12, [], 0), (.imul, [], 0), (.iload 13, [], 0), (.bipush 9, [], 0), (.ishr, [], 0), (.iconst 3, [], 0), (.invokestatic 21, [172, 2], 2), (.ifCond .ne 7, [4], 0), (.iconst 1, [], 0), (.goto 4, [5], 0)],
  [(.iconst 0, [], 0), (.nop, [5], 0)],
  [(.iastore, [], 0), (.aload 8, [], 0), (.bipush 10, [], 0), (.iload 12, [], 0), (.imul, [], 0), (.iconst 1, [], 0), (.iadd, [], 0), (.iload 13, [], 0), (.bipush 11, [], 0), (.ishr, [], 0), (.iconst 4, [], 0), (.invokestatic 21, [172, 2], 2), (.ifCond .ne 17, [6], 0), (.iconst 1, [], 0), (.iload 13, [], 0), (.bipush 13, [], 0), (.ishr, [], 0), (.iconst 2, [], 0), (.invokestatic 21, [172, 2], 2), (.iadd, [], 0), (.goto 4, [7], 0)],
  [(.iconst 0, [], 0), (.nop, [7], 0)],
  [(.iastore, [], 0), (.aload_n 0, [], 0), (.iconst 4, [], 0), (.bipush 8, [], 0), (.invokevirtual 43, [21, 3, 9], 3), (.bipush 8, [], 0), (.if_icmp .eq 5, [8], 0), (.iconst (-1), [], 0), (.ireturn, [0], 0)],
  [(.iconst 0, [], 0), (.istore 14, [], 0), (.nop, [9], 0)],
  [(.iload 14, [], 0), (.bipush 8, [], 0), (.if_icmp .ge 174, [18], 0), (.aload 8, [], 0), (.bipush 10, [], 0), (.iload 12, [], 0), (.imul, [], 0), (.iaload, [], 0), (.iconst 1, [], 0), (.if_icmp .ne 20, [10], 0), (.aload 7, [], 0), (.iconst 0, [], 0), (.iaload, [], 0), (.iload 14, [], 0), (.ishr, [], 0), (.iconst 1, [], 0), (.iand, [], 0), (.iconst 1, [], 0), (.if_icmp .ne 7, [10], 0), (.iconst 0, [], 0), (.goto 12, [11], 0)],
  [(.aload 5, [], 0), (.iload 11, [], 0), (.iload 14, [], 0), (.invokestatic 46, [178, 3], 3), (.nop, [11], 0)],
  [(.istore 15, [], 0), (.aload 6, [], 0), (.iload 11, [], 0), (.iload 14, [], 0), (.invokestatic 46, [178, 3], 3), (.iload 15, [], 0), (.isub, [], 0), (.iconst 1, [], 0), (.iadd, [], 0), (.istore 16, [], 0), (.iload 15, [], 0), (.iload 13, [], 0), (.bipush 14, [], 0), (.iload 14, [], 0), (.iadd, [], 0), (.ishr, [], 0), (.iload 16, [], 0), (.invokestatic 21, [172, 2], 2), (.iadd, [], 0), (.iload 13, [], 0), (.bipush 17, [], 0), (.iload 14, [], 0), (.iadd, [], 0), (.ishr, [], 0), (.bipush 19, [], 0), (.invokestatic 21, [172, 2], 2), (.ifCond .ne 7, [12], 0), (.iconst 1, [], 0), (.goto 4, [13], 0)],
  [(.iconst 0, [], 0), (.nop, [13], 0)],
  [(.iadd, [], 0), (.istore 17, [], 0), (.iload 14, [], 0), (.iconst 2, [], 0), (.if_icmp .le 20, [14], 0), (.iload 13, [], 0), (.bipush 20, [], 0), (.ishr, [], 0), (.bipush 30, [], 0), (.invokestatic 21, [172, 2], 2), (.ifCond .le 7, [14], 0), (.iconst 0, [], 0), (.goto 17, [16], 0)],
  [(.iload 17, [], 0), (.bipush 40, [], 0), (.if_icmp .le 8, [15], 0), (.bipush 40, [], 0), (.goto 5, [16], 0)],
  [(.iload 17, [], 0), (.nop, [16], 0)],
  [(.istore 17, [], 0), (.aload 8, [], 0), (.bipush 10, [], 0), (.iload 12, [], 0), (.imul, [], 0), (.iconst 2, [], 0), (.iadd, [], 0), (.iload 14, [], 0), (.iadd, [], 0), (.iload 17, [], 0), (.iastore, [], 0), (.aload_n 0, [], 0), (.iconst 4, [], 0), (.iload 14, [], 0), (.iload 17, [], 0), (.invokevirtual 50, [26, 4, 9], 4), (.iconst 1, [], 0), (.if_icmp .eq 5, [17], 0), (.iconst (-1), [], 0), (.ireturn, [0], 0)],
  [(.iinc 14 1, [], 0), (.goto (-175), [9], 0)],
  [(.aload_n 0, [], 0), (.aload 8, [], 0), (.bipush 10, [], 0), (.iload 12, [], 0), (.imul, [], 0), (.iaload, [], 0), (.iconst 4, [], 0), (.aload 8, [], 0), (.bipush 10, [], 0), (.iload 12, [], 0), (.imul, [], 0), (.iconst 1, [], 0), (.iadd, [], 0), (.iaload, [], 0), (.invokevirtual 53, [61, 4, 9], 4), (.iload 12, [], 0), (.if_icmp .eq 5, [19], 0), (.iconst (-1), [], 0), (.ireturn, [0], 0)],
  [(.iinc 12 1, [], 0), (.goto (-340), [1], 0)],
  [(.iload 10, [], 0), (.ireturn, [0], 0)]]
def am_s177 : List Nat := [0, 43, 89, 91, 116, 117, 153, 154, 169, 172, 208, 217, 271, 272, 298, 310, 312, 344, 350, 380, 386]
/-- WashLineLaw.sum([III)I -/
def am_b178 : List (List am_I) := [[(.aload_n 0, [], 0), (.iload_n 2, [], 0), (.iaload, [], 0), (.iload_n 1, [], 0), (.bipush 10, [], 0), (.irem, [], 0), (.imul, [], 0), (.aload_n 0, [], 0), (.bipush 8, [], 0), (.iload_n 2, [], 0), (.iadd, [], 0), (.iaload, [], 0), (.iload_n 1, [], 0), (.bipush 10, [], 0), (.idiv, [], 0), (.bipush 10, [], 0), (.irem, [], 0), (.imul, [], 0), (.iadd, [], 0), (.aload_n 0, [], 0), (.bipush 16, [], 0), (.iload_n 2, [], 0), (.iadd, [], 0), (.iaload, [], 0), (.iload_n 1, [], 0), (.bipush 100, [], 0), (.idiv, [], 0), (.imul, [], 0), (.iadd, [], 0), (.ireturn, [0], 0)]]
def am_s178 : List Nat := [0]
/-- name, bytes, places for locals, answer, frames and words that it needs, how many arguments, how it is called (0 static, 1 virtual, 2 making, 3 making a nest mate), blocks' starts, blocks -/
abbrev am_M : Type := MethodName × ByteArray × Nat × Option FieldType × (Nat × Nat) × Nat × Nat × List Nat × List (List am_I)
def am_m0 : am_M := (⟨"WashLineLaw", "law", "([I)Z"⟩, code, 25, some .boolean, (10, 378), 1, 0, am_s0, am_b0)
def am_m1 : am_M := (⟨"WashLine", "<init>", "()V"⟩, prog_1_method_1_code, 2, none, (6, 134), 1, 2, am_s1, am_b1)
def am_m2 : am_M := (⟨"WashLine$World", "<init>", "()V"⟩, prog_10_method_1_code, 1, none, (2, 43), 1, 2, am_s2, am_b2)
def am_m3 : am_M := (⟨"WashLine$World", "clear", "()V"⟩, prog_10_method_2_code, 1, none, (1, 23), 1, 1, am_s3, am_b3)
def am_m4 : am_M := (⟨"java/util/Arrays", "fill", "([II)V"⟩, prog_15_method_103_code, 4, none, (0, 0), 2, 0, am_s4, am_b4)
def am_m5 : am_M := (⟨"WashLine$Reader", "<init>", "()V"⟩, prog_5_method_1_code, 1, none, (3, 63), 1, 3, am_s5, am_b5)
def am_m6 : am_M := (⟨"WashLine$Strip", "<init>", "(I)V"⟩, prog_8_method_1_code, 2, none, (1, 20), 2, 2, am_s6, am_b6)
def am_m7 : am_M := (⟨"WashLine$Houses", "<init>", "(LWashLine$World;)V"⟩, prog_2_method_1_code, 2, none, (5, 113), 2, 2, am_s7, am_b7)
def am_m8 : am_M := (⟨"WashLine$Houses", "build", "()V"⟩, prog_2_method_2_code, 3, none, (4, 91), 1, 1, am_s8, am_b8)
def am_m9 : am_M := (⟨"WashLine$Houses", "list", "()V"⟩, prog_2_method_3_code, 1, none, (3, 71), 1, 1, am_s9, am_b9)
def am_m10 : am_M := (⟨"java/util/Arrays", "fill", "([IIII)V"⟩, prog_15_method_104_code, 5, none, (1, 22), 4, 0, am_s10, am_b10)
def am_m11 : am_M := (⟨"java/util/Arrays", "rangeCheck", "(III)V"⟩, prog_15_method_30_code, 3, none, (0, 0), 3, 0, am_s11, am_b11)
def am_m12 : am_M := (⟨"WashLine$Houses", "follow", "(II)Z"⟩, prog_2_method_4_code, 6, some .boolean, (2, 46), 3, 1, am_s12, am_b12)
def am_m13 : am_M := (⟨"WashLine$Houses", "find", "(I)I"⟩, prog_2_method_5_code, 5, some .int, (0, 0), 2, 1, am_s13, am_b13)
def am_m14 : am_M := (⟨"WashLine$Houses", "hang", "(I)V"⟩, prog_2_method_7_code, 6, none, (0, 0), 2, 1, am_s14, am_b14)
def am_m15 : am_M := (⟨"WashLine$Houses", "grown", "(II)I"⟩, prog_2_method_6_code, 4, some .int, (0, 0), 3, 1, am_s15, am_b15)
def am_m16 : am_M := (⟨"WashLine$Line", "<init>", "()V"⟩, prog_3_method_1_code, 1, none, (1, 20), 1, 3, am_s16, am_b16)
def am_m17 : am_M := (⟨"WashLine$Looks", "<init>", "(LWashLine$World;LWashLine$Houses;LWashLine$Line;)V"⟩, prog_4_method_1_code, 4, none, (1, 20), 4, 2, am_s17, am_b17)
def am_m18 : am_M := (⟨"WashLine$Steps", "<init>", "(LWashLine$World;LWashLine$Houses;)V"⟩, prog_6_method_1_code, 3, none, (1, 20), 3, 2, am_s18, am_b18)
def am_m19 : am_M := (⟨"WashLine$Winter", "<init>", "(LWashLine$Houses;LWashLine$Line;LWashLine$Looks;LWashLine$Steps;)V"⟩, prog_9_method_1_code, 5, none, (1, 20), 5, 2, am_s19, am_b19)
def am_m20 : am_M := (⟨"WashLine$Story", "<init>", "(LWashLine$World;LWashLine$Line;)V"⟩, prog_7_method_1_code, 3, none, (1, 20), 3, 2, am_s20, am_b20)
def am_m21 : am_M := (⟨"WashLine", "row", "(II)I"⟩, prog_1_method_2_code, 3, some .int, (2, 45), 3, 1, am_s21, am_b21)
def am_m22 : am_M := (⟨"WashLine", "isRow", "(I)Z"⟩, prog_1_method_56_code, 1, some .boolean, (1, 21), 1, 0, am_s22, am_b22)
def am_m23 : am_M := (⟨"WashLine", "isWithin", "(II)Z"⟩, prog_1_method_55_code, 2, some .boolean, (0, 0), 2, 0, am_s23, am_b23)
def am_m24 : am_M := (⟨"WashLine", "finds", "(I)I"⟩, prog_1_method_50_code, 2, some .int, (0, 0), 2, 1, am_s24, am_b24)
def am_m25 : am_M := (⟨"WashLine$Strip", "begin", "(II)V"⟩, prog_8_method_2_code, 3, none, (1, 23), 3, 1, am_s25, am_b25)
def am_m26 : am_M := (⟨"WashLine", "lay", "(III)I"⟩, prog_1_method_3_code, 4, some .int, (2, 41), 4, 1, am_s26, am_b26)
def am_m27 : am_M := (⟨"WashLine$Strip", "isMissing", "()Z"⟩, prog_8_method_3_code, 1, some .boolean, (0, 0), 1, 1, am_s27, am_b27)
def am_m28 : am_M := (⟨"WashLine$Strip", "has", "(I)Z"⟩, prog_8_method_4_code, 2, some .boolean, (0, 0), 2, 1, am_s28, am_b28)
def am_m29 : am_M := (⟨"WashLine$Strip", "swap", "(II)I"⟩, prog_8_method_6_code, 4, some .int, (0, 0), 3, 1, am_s29, am_b29)
def am_m30 : am_M := (⟨"WashLine", "tells", "(II)I"⟩, prog_1_method_51_code, 3, some .int, (0, 0), 3, 1, am_s30, am_b30)
def am_m31 : am_M := (⟨"WashLine", "at", "(II)I"⟩, prog_1_method_4_code, 3, some .int, (2, 41), 3, 1, am_s31, am_b31)
def am_m32 : am_M := (⟨"WashLine", "isWithin", "(II)Z"⟩, prog_1_method_55_code, 2, some .boolean, (0, 0), 2, 0, am_s32, am_b32)
def am_m33 : am_M := (⟨"WashLine", "isWithin", "(II)Z"⟩, prog_1_method_55_code, 2, some .boolean, (0, 0), 2, 0, am_s33, am_b33)
def am_m34 : am_M := (⟨"WashLine", "isWithin", "(II)Z"⟩, prog_1_method_55_code, 2, some .boolean, (0, 0), 2, 0, am_s34, am_b34)
def am_m35 : am_M := (⟨"WashLine", "isWithin", "(II)Z"⟩, prog_1_method_55_code, 2, some .boolean, (0, 0), 2, 0, am_s35, am_b35)
def am_m36 : am_M := (⟨"WashLine", "isWithin", "(II)Z"⟩, prog_1_method_55_code, 2, some .boolean, (0, 0), 2, 0, am_s36, am_b36)
def am_m37 : am_M := (⟨"WashLine", "text", "(II)I"⟩, prog_1_method_8_code, 3, some .int, (2, 45), 3, 1, am_s37, am_b37)
def am_m38 : am_M := (⟨"WashLine", "isText", "(I)Z"⟩, prog_1_method_57_code, 1, some .boolean, (1, 21), 1, 0, am_s38, am_b38)
def am_m39 : am_M := (⟨"WashLine", "put", "(III)I"⟩, prog_1_method_9_code, 4, some .int, (2, 41), 4, 1, am_s39, am_b39)
def am_m40 : am_M := (⟨"WashLine", "fault", "(I)I"⟩, prog_1_method_10_code, 2, some .int, (6, 131), 2, 1, am_s40, am_b40)
def am_m41 : am_M := (⟨"WashLine$Reader", "read", "(LWashLine$Strip;)I"⟩, prog_5_method_2_code, 4, some .int, (5, 108), 2, 1, am_s41, am_b41)
def am_m42 : am_M := (⟨"WashLine$Reader", "letter", "(I)Z"⟩, prog_5_method_9_code, 2, some .boolean, (2, 41), 2, 1, am_s42, am_b42)
def am_m43 : am_M := (⟨"WashLine$Reader", "sign", "()I"⟩, prog_5_method_3_code, 1, some .int, (1, 21), 1, 1, am_s43, am_b43)
def am_m44 : am_M := (⟨"WashLine$Reader", "item", "()Z"⟩, prog_5_method_4_code, 1, some .boolean, (4, 88), 1, 1, am_s44, am_b44)
def am_m45 : am_M := (⟨"WashLine$Reader", "sort", "()Z"⟩, prog_5_method_5_code, 2, some .boolean, (3, 64), 1, 1, am_s45, am_b45)
def am_m46 : am_M := (⟨"WashLine$Reader", "figure", "(II)I"⟩, prog_5_method_10_code, 4, some .int, (2, 41), 3, 1, am_s46, am_b46)
def am_m47 : am_M := (⟨"WashLine$Reader", "wash", "()Z"⟩, prog_5_method_6_code, 5, some .boolean, (3, 64), 1, 1, am_s47, am_b47)
def am_m48 : am_M := (⟨"WashLine$Reader", "inside", "()Z"⟩, prog_5_method_7_code, 2, some .boolean, (3, 64), 1, 1, am_s48, am_b48)
def am_m49 : am_M := (⟨"WashLine$Reader", "costs", "()Z"⟩, prog_5_method_8_code, 3, some .boolean, (3, 64), 1, 1, am_s49, am_b49)
def am_m50 : am_M := (⟨"WashLine$World", "growIntoToldOnly", "()V"⟩, prog_10_method_5_code, 2, none, (0, 0), 1, 1, am_s50, am_b50)
def am_m51 : am_M := (⟨"WashLine", "world", "(I)I"⟩, prog_1_method_11_code, 2, some .int, (6, 131), 2, 1, am_s51, am_b51)
def am_m52 : am_M := (⟨"WashLine$World", "take", "(LWashLine$World;)V"⟩, prog_10_method_3_code, 2, none, (1, 26), 2, 1, am_s52, am_b52)
def am_m53 : am_M := (⟨"WashLine$Steps", "forget", "()V"⟩, prog_6_method_2_code, 2, none, (0, 0), 1, 1, am_s53, am_b53)
def am_m54 : am_M := (⟨"WashLine$Winter", "forget", "()V"⟩, prog_9_method_2_code, 1, none, (0, 0), 1, 1, am_s54, am_b54)
def am_m55 : am_M := (⟨"WashLine", "isWithin", "(II)Z"⟩, prog_1_method_55_code, 2, some .boolean, (0, 0), 2, 0, am_s55, am_b55)
def am_m56 : am_M := (⟨"WashLine", "isSort", "(I)Z"⟩, prog_1_method_60_code, 2, some .boolean, (1, 21), 2, 1, am_s56, am_b56)
def am_m57 : am_M := (⟨"WashLine", "isThing", "(I)Z"⟩, prog_1_method_58_code, 1, some .boolean, (1, 21), 1, 0, am_s57, am_b57)
def am_m58 : am_M := (⟨"WashLine", "isWithin", "(II)Z"⟩, prog_1_method_55_code, 2, some .boolean, (0, 0), 2, 0, am_s58, am_b58)
def am_m59 : am_M := (⟨"WashLine", "indoors", "()I"⟩, prog_1_method_14_code, 1, some .int, (0, 0), 1, 1, am_s59, am_b59)
def am_m60 : am_M := (⟨"WashLine", "isWithin", "(II)Z"⟩, prog_1_method_55_code, 2, some .boolean, (0, 0), 2, 0, am_s60, am_b60)
def am_m61 : am_M := (⟨"WashLine", "monday", "(III)I"⟩, prog_1_method_16_code, 4, some .int, (2, 49), 4, 1, am_s61, am_b61)
def am_m62 : am_M := (⟨"WashLine", "isWeather", "(I)Z"⟩, prog_1_method_59_code, 1, some .boolean, (1, 21), 1, 0, am_s62, am_b62)
def am_m63 : am_M := (⟨"WashLine$Strip", "holdsUpTo", "(I)Z"⟩, prog_8_method_8_code, 3, some .boolean, (0, 0), 2, 1, am_s63, am_b63)
def am_m64 : am_M := (⟨"WashLine$Line", "add", "(I[II)I"⟩, prog_3_method_2_code, 4, some .int, (1, 26), 4, 1, am_s64, am_b64)
def am_m65 : am_M := (⟨"WashLine", "isWithin", "(II)Z"⟩, prog_1_method_55_code, 2, some .boolean, (0, 0), 2, 0, am_s65, am_b65)
def am_m66 : am_M := (⟨"WashLine", "isMonday", "(I)Z"⟩, prog_1_method_61_code, 2, some .boolean, (1, 21), 2, 1, am_s66, am_b66)
def am_m67 : am_M := (⟨"WashLine", "isWithin", "(II)Z"⟩, prog_1_method_55_code, 2, some .boolean, (0, 0), 2, 0, am_s67, am_b67)
def am_m68 : am_M := (⟨"WashLine", "isWithin", "(II)Z"⟩, prog_1_method_55_code, 2, some .boolean, (0, 0), 2, 0, am_s68, am_b68)
def am_m69 : am_M := (⟨"WashLine", "back", "(I)I"⟩, prog_1_method_19_code, 3, some .int, (1, 21), 2, 1, am_s69, am_b69)
def am_m70 : am_M := (⟨"WashLine", "hangs", "(III)I"⟩, prog_1_method_20_code, 5, some .int, (2, 45), 4, 1, am_s70, am_b70)
def am_m71 : am_M := (⟨"WashLine$Houses", "leastIn", "(III)I"⟩, prog_2_method_8_code, 4, some .int, (1, 22), 4, 1, am_s71, am_b71)
def am_m72 : am_M := (⟨"WashLine$World", "isInside", "(II)Z"⟩, prog_10_method_4_code, 3, some .boolean, (0, 0), 3, 1, am_s72, am_b72)
def am_m73 : am_M := (⟨"WashLine", "explains", "(II)I"⟩, prog_1_method_21_code, 5, some .int, (4, 97), 3, 1, am_s73, am_b73)
def am_m74 : am_M := (⟨"WashLine$Looks", "explain", "(II)I"⟩, prog_4_method_4_code, 4, some .int, (3, 74), 3, 1, am_s74, am_b74)
def am_m75 : am_M := (⟨"WashLine$Looks", "agrees", "(II)Z"⟩, prog_4_method_2_code, 3, some .boolean, (2, 51), 3, 1, am_s75, am_b75)
def am_m76 : am_M := (⟨"WashLine$Looks", "agreesWith", "(IIIII)Z"⟩, prog_4_method_3_code, 9, some .boolean, (1, 23), 6, 1, am_s76, am_b76)
def am_m77 : am_M := (⟨"WashLine$Line", "isAbove", "(III)Z"⟩, prog_3_method_4_code, 4, some .boolean, (0, 0), 4, 1, am_s77, am_b77)
def am_m78 : am_M := (⟨"WashLine$Line", "isBelow", "(III)Z"⟩, prog_3_method_5_code, 4, some .boolean, (0, 0), 4, 1, am_s78, am_b78)
def am_m79 : am_M := (⟨"WashLine$Looks", "explainIll", "(II)I"⟩, prog_4_method_5_code, 4, some .int, (2, 51), 3, 1, am_s79, am_b79)
def am_m80 : am_M := (⟨"WashLine$Looks", "explainGuest", "(II)I"⟩, prog_4_method_6_code, 4, some .int, (2, 51), 3, 1, am_s80, am_b80)
def am_m81 : am_M := (⟨"WashLine$Looks", "priceOf", "(I)I"⟩, prog_4_method_7_code, 2, some .int, (0, 0), 2, 1, am_s81, am_b81)
def am_m82 : am_M := (⟨"WashLine", "lacks", "(II)I"⟩, prog_1_method_22_code, 4, some .int, (3, 69), 3, 1, am_s82, am_b82)
def am_m83 : am_M := (⟨"WashLine$Looks", "tooMuch", "(II)I"⟩, prog_4_method_10_code, 5, some .int, (1, 23), 3, 1, am_s83, am_b83)
def am_m84 : am_M := (⟨"WashLine$Looks", "tooLittle", "(II)I"⟩, prog_4_method_9_code, 5, some .int, (2, 45), 3, 1, am_s84, am_b84)
def am_m85 : am_M := (⟨"WashLine", "fewest", "(I)I"⟩, prog_1_method_23_code, 3, some .int, (4, 96), 2, 1, am_s85, am_b85)
def am_m86 : am_M := (⟨"WashLine$Looks", "smallest", "(I)I"⟩, prog_4_method_11_code, 4, some .int, (3, 73), 2, 1, am_s86, am_b86)
def am_m87 : am_M := (⟨"WashLine", "bound", "(I)I"⟩, prog_1_method_24_code, 2, some .int, (3, 71), 2, 1, am_s87, am_b87)
def am_m88 : am_M := (⟨"WashLine$Looks", "peopleByThings", "(I)I"⟩, prog_4_method_12_code, 6, some .int, (2, 46), 2, 1, am_s88, am_b88)
def am_m89 : am_M := (⟨"WashLine$Looks", "mostOfAny", "(I)I"⟩, prog_4_method_13_code, 4, some .int, (1, 23), 2, 1, am_s89, am_b89)
def am_m90 : am_M := (⟨"WashLine", "many", "(II)I"⟩, prog_1_method_25_code, 3, some .int, (5, 122), 3, 1, am_s90, am_b90)
def am_m91 : am_M := (⟨"WashLine$Looks", "explained", "(II)I"⟩, prog_4_method_8_code, 6, some .int, (4, 97), 3, 1, am_s91, am_b91)
def am_m92 : am_M := (⟨"WashLine", "step", "(II)I"⟩, prog_1_method_26_code, 5, some .int, (4, 93), 3, 1, am_s92, am_b92)
def am_m93 : am_M := (⟨"WashLine$Steps", "know", "(I)V"⟩, prog_6_method_3_code, 4, none, (3, 70), 2, 1, am_s93, am_b93)
def am_m94 : am_M := (⟨"WashLine$Steps", "spread", "([I)V"⟩, prog_6_method_5_code, 2, none, (2, 49), 2, 1, am_s94, am_b94)
def am_m95 : am_M := (⟨"WashLine$Steps", "fromMore", "([II)V"⟩, prog_6_method_7_code, 4, none, (1, 26), 3, 1, am_s95, am_b95)
def am_m96 : am_M := (⟨"WashLine$Steps", "leastOf", "([I[III)I"⟩, prog_6_method_9_code, 7, some .int, (0, 0), 5, 1, am_s96, am_b96)
def am_m97 : am_M := (⟨"WashLine$Steps", "grow", "([I)V"⟩, prog_6_method_10_code, 5, none, (1, 25), 2, 1, am_s97, am_b97)
def am_m98 : am_M := (⟨"WashLine$Steps", "growOne", "([II)Z"⟩, prog_6_method_11_code, 6, some .boolean, (0, 0), 3, 1, am_s98, am_b98)
def am_m99 : am_M := (⟨"WashLine$Steps", "fromLess", "([II)V"⟩, prog_6_method_8_code, 4, none, (1, 26), 3, 1, am_s99, am_b99)
def am_m100 : am_M := (⟨"WashLine$Steps", "between", "(II)I"⟩, prog_6_method_4_code, 3, some .int, (0, 0), 3, 1, am_s100, am_b100)
def am_m101 : am_M := (⟨"WashLine", "plain", "()I"⟩, prog_1_method_27_code, 1, some .int, (6, 141), 1, 1, am_s101, am_b101)
def am_m102 : am_M := (⟨"WashLine$Winter", "weigh", "()V"⟩, prog_9_method_4_code, 2, none, (5, 120), 1, 1, am_s102, am_b102)
def am_m103 : am_M := (⟨"WashLine$Winter", "setPrices", "(I)V"⟩, prog_9_method_5_code, 4, none, (4, 97), 2, 1, am_s103, am_b103)
def am_m104 : am_M := (⟨"WashLine$Winter", "goAhead", "()I"⟩, prog_9_method_6_code, 3, some .int, (3, 70), 1, 1, am_s104, am_b104)
def am_m105 : am_M := (⟨"WashLine$Winter", "explain", "(I)V"⟩, prog_9_method_8_code, 3, none, (1, 23), 2, 1, am_s105, am_b105)
def am_m106 : am_M := (⟨"WashLine$Winter", "isTold", "()Z"⟩, prog_9_method_3_code, 1, some .boolean, (0, 0), 1, 1, am_s106, am_b106)
def am_m107 : am_M := (⟨"WashLine$Winter", "goBack", "()V"⟩, prog_9_method_7_code, 2, none, (3, 73), 1, 1, am_s107, am_b107)
def am_m108 : am_M := (⟨"WashLine$Steps", "gather", "([I)V"⟩, prog_6_method_6_code, 2, none, (2, 52), 2, 1, am_s108, am_b108)
def am_m109 : am_M := (⟨"WashLine$Steps", "growBack", "([I)V"⟩, prog_6_method_12_code, 7, none, (1, 26), 2, 1, am_s109, am_b109)
def am_m110 : am_M := (⟨"WashLine$Winter", "list", "(I)V"⟩, prog_9_method_9_code, 4, none, (2, 42), 2, 1, am_s110, am_b110)
def am_m111 : am_M := (⟨"WashLine$Winter", "costBy", "(II)I"⟩, prog_9_method_12_code, 3, some .int, (1, 20), 3, 1, am_s111, am_b111)
def am_m112 : am_M := (⟨"WashLine$Winter", "findFirst", "()V"⟩, prog_9_method_10_code, 5, none, (4, 93), 1, 1, am_s112, am_b112)
def am_m113 : am_M := (⟨"WashLine$Winter", "follows", "(III)Z"⟩, prog_9_method_11_code, 5, some .boolean, (1, 22), 4, 1, am_s113, am_b113)
def am_m114 : am_M := (⟨"WashLine", "tale", "(I)I"⟩, prog_1_method_28_code, 3, some .int, (6, 141), 2, 1, am_s114, am_b114)
def am_m115 : am_M := (⟨"WashLine", "ways", "()I"⟩, prog_1_method_29_code, 1, some .int, (6, 142), 1, 1, am_s115, am_b115)
def am_m116 : am_M := (⟨"WashLine$Winter", "countWays", "()V"⟩, prog_9_method_16_code, 2, none, (5, 121), 1, 1, am_s116, am_b116)
def am_m117 : am_M := (⟨"WashLine$Winter", "countOn", "(I)V"⟩, prog_9_method_17_code, 9, none, (4, 93), 2, 1, am_s117, am_b117)
def am_m118 : am_M := (⟨"WashLine$Winter", "capped", "(J)J"⟩, prog_9_method_19_code, 2, some .long, (1, 23), 1, 0, am_s118, am_b118)
def am_m119 : am_M := (⟨"WashLine$Winter", "countTo", "(I)V"⟩, prog_9_method_18_code, 8, none, (2, 46), 2, 1, am_s119, am_b119)
def am_m120 : am_M := (⟨"WashLine", "sure", "(II)I"⟩, prog_1_method_30_code, 3, some .int, (6, 141), 3, 1, am_s120, am_b120)
def am_m121 : am_M := (⟨"WashLine$Winter", "mostOf", "(II)I"⟩, prog_9_method_15_code, 5, some .int, (1, 23), 3, 1, am_s121, am_b121)
def am_m122 : am_M := (⟨"WashLine$Winter", "leastOf", "(II)I"⟩, prog_9_method_14_code, 5, some .int, (1, 23), 3, 1, am_s122, am_b122)
def am_m123 : am_M := (⟨"WashLine", "share", "(III)I"⟩, prog_1_method_31_code, 4, some .int, (6, 142), 4, 1, am_s123, am_b123)
def am_m124 : am_M := (⟨"WashLine$Winter", "having", "(III)J"⟩, prog_9_method_20_code, 8, some .long, (0, 0), 4, 1, am_s124, am_b124)
def am_m125 : am_M := (⟨"WashLine", "tellFraction", "(JJ)V"⟩, prog_1_method_52_code, 7, none, (1, 30), 3, 1, am_s125, am_b125)
def am_m126 : am_M := (⟨"WashLine", "commonDivisor", "(JJ)J"⟩, prog_1_method_53_code, 11, some .long, (0, 0), 2, 0, am_s126, am_b126)
def am_m127 : am_M := (⟨"WashLine", "through", "(II)I"⟩, prog_1_method_32_code, 5, some .int, (6, 141), 3, 1, am_s127, am_b127)
def am_m128 : am_M := (⟨"WashLine", "rival", "(I)I"⟩, prog_1_method_33_code, 3, some .int, (6, 141), 2, 1, am_s128, am_b128)
def am_m129 : am_M := (⟨"WashLine$Winter", "other", "(I)I"⟩, prog_9_method_13_code, 5, some .int, (2, 42), 2, 1, am_s129, am_b129)
def am_m130 : am_M := (⟨"WashLine", "happen", "(IIII)I"⟩, prog_1_method_34_code, 6, some .int, (2, 42), 5, 1, am_s130, am_b130)
def am_m131 : am_M := (⟨"WashLine$Story", "add", "(IIII)I"⟩, prog_7_method_2_code, 5, some .int, (0, 0), 5, 1, am_s131, am_b131)
def am_m132 : am_M := (⟨"WashLine", "isWithin", "(II)Z"⟩, prog_1_method_55_code, 2, some .boolean, (0, 0), 2, 0, am_s132, am_b132)
def am_m133 : am_M := (⟨"WashLine", "isWithin", "(II)Z"⟩, prog_1_method_55_code, 2, some .boolean, (0, 0), 2, 0, am_s133, am_b133)
def am_m134 : am_M := (⟨"WashLine", "isWithin", "(II)Z"⟩, prog_1_method_55_code, 2, some .boolean, (0, 0), 2, 0, am_s134, am_b134)
def am_m135 : am_M := (⟨"WashLine", "isWithin", "(II)Z"⟩, prog_1_method_55_code, 2, some .boolean, (0, 0), 2, 0, am_s135, am_b135)
def am_m136 : am_M := (⟨"WashLine", "isWithin", "(II)Z"⟩, prog_1_method_55_code, 2, some .boolean, (0, 0), 2, 0, am_s136, am_b136)
def am_m137 : am_M := (⟨"WashLine", "isWithin", "(II)Z"⟩, prog_1_method_55_code, 2, some .boolean, (0, 0), 2, 0, am_s137, am_b137)
def am_m138 : am_M := (⟨"WashLine$Story", "live", "(I)Z"⟩, prog_7_method_7_code, 4, some .boolean, (3, 67), 2, 1, am_s138, am_b138)
def am_m139 : am_M := (⟨"WashLine$Story", "comesTrue", "(I)Z"⟩, prog_7_method_8_code, 2, some .boolean, (2, 46), 2, 1, am_s139, am_b139)
def am_m140 : am_M := (⟨"WashLine$Story", "join", "(I)Z"⟩, prog_7_method_9_code, 2, some .boolean, (1, 25), 2, 1, am_s140, am_b140)
def am_m141 : am_M := (⟨"WashLine$Story", "everybody", "()I"⟩, prog_7_method_11_code, 6, some .int, (0, 0), 1, 1, am_s141, am_b141)
def am_m142 : am_M := (⟨"WashLine$Story", "leave", "(I)Z"⟩, prog_7_method_10_code, 2, some .boolean, (0, 0), 2, 1, am_s142, am_b142)
def am_m143 : am_M := (⟨"WashLine", "household", "(I)I"⟩, prog_1_method_37_code, 2, some .int, (4, 90), 2, 1, am_s143, am_b143)
def am_m144 : am_M := (⟨"WashLine$Story", "number", "()I"⟩, prog_7_method_12_code, 3, some .int, (0, 0), 1, 1, am_s144, am_b144)
def am_m145 : am_M := (⟨"WashLine", "isWithin", "(II)Z"⟩, prog_1_method_55_code, 2, some .boolean, (0, 0), 2, 0, am_s145, am_b145)
def am_m146 : am_M := (⟨"WashLine", "isWithin", "(II)Z"⟩, prog_1_method_55_code, 2, some .boolean, (0, 0), 2, 0, am_s146, am_b146)
def am_m147 : am_M := (⟨"WashLine", "isWithin", "(II)Z"⟩, prog_1_method_55_code, 2, some .boolean, (0, 0), 2, 0, am_s147, am_b147)
def am_m148 : am_M := (⟨"WashLine", "isWithin", "(II)Z"⟩, prog_1_method_55_code, 2, some .boolean, (0, 0), 2, 0, am_s148, am_b148)
def am_m149 : am_M := (⟨"WashLine", "isWithin", "(II)Z"⟩, prog_1_method_55_code, 2, some .boolean, (0, 0), 2, 0, am_s149, am_b149)
def am_m150 : am_M := (⟨"WashLine", "isWithin", "(II)Z"⟩, prog_1_method_55_code, 2, some .boolean, (0, 0), 2, 0, am_s150, am_b150)
def am_m151 : am_M := (⟨"WashLine", "isWithin", "(II)Z"⟩, prog_1_method_55_code, 2, some .boolean, (0, 0), 2, 0, am_s151, am_b151)
def am_m152 : am_M := (⟨"WashLine", "doubts", "(I)I"⟩, prog_1_method_39_code, 3, some .int, (3, 70), 2, 1, am_s152, am_b152)
def am_m153 : am_M := (⟨"WashLine$Looks", "doubted", "(I)I"⟩, prog_4_method_14_code, 6, some .int, (2, 45), 2, 1, am_s153, am_b153)
def am_m154 : am_M := (⟨"WashLine", "least", "()I"⟩, prog_1_method_40_code, 2, some .int, (4, 94), 1, 1, am_s154, am_b154)
def am_m155 : am_M := (⟨"WashLine$Looks", "leastDoubted", "()I"⟩, prog_4_method_15_code, 5, some .int, (3, 70), 1, 1, am_s155, am_b155)
def am_m156 : am_M := (⟨"WashLine", "isWithin", "(II)Z"⟩, prog_1_method_55_code, 2, some .boolean, (0, 0), 2, 0, am_s156, am_b156)
def am_m157 : am_M := (⟨"WashLine", "isWithin", "(II)Z"⟩, prog_1_method_55_code, 2, some .boolean, (0, 0), 2, 0, am_s157, am_b157)
def am_m158 : am_M := (⟨"WashLine", "asked", "()I"⟩, prog_1_method_42_code, 1, some .int, (0, 0), 1, 1, am_s158, am_b158)
def am_m159 : am_M := (⟨"WashLine", "tales", "()J"⟩, prog_1_method_43_code, 1, some .long, (0, 0), 1, 1, am_s159, am_b159)
def am_m160 : am_M := (⟨"WashLine", "upper", "()J"⟩, prog_1_method_44_code, 1, some .long, (0, 0), 1, 1, am_s160, am_b160)
def am_m161 : am_M := (⟨"WashLine", "lower", "()J"⟩, prog_1_method_45_code, 1, some .long, (0, 0), 1, 1, am_s161, am_b161)
def am_m162 : am_M := (⟨"WashLine", "isWithin", "(II)Z"⟩, prog_1_method_55_code, 2, some .boolean, (0, 0), 2, 0, am_s162, am_b162)
def am_m163 : am_M := (⟨"WashLine", "isWithin", "(II)Z"⟩, prog_1_method_55_code, 2, some .boolean, (0, 0), 2, 0, am_s163, am_b163)
def am_m164 : am_M := (⟨"WashLine", "isWithin", "(II)Z"⟩, prog_1_method_55_code, 2, some .boolean, (0, 0), 2, 0, am_s164, am_b164)
def am_m165 : am_M := (⟨"WashLine", "isWithin", "(II)Z"⟩, prog_1_method_55_code, 2, some .boolean, (0, 0), 2, 0, am_s165, am_b165)
def am_m166 : am_M := (⟨"WashLine", "isWithin", "(II)Z"⟩, prog_1_method_55_code, 2, some .boolean, (0, 0), 2, 0, am_s166, am_b166)
def am_m167 : am_M := (⟨"WashLine", "isWithin", "(II)Z"⟩, prog_1_method_55_code, 2, some .boolean, (0, 0), 2, 0, am_s167, am_b167)
def am_m168 : am_M := (⟨"WashLine", "isWithin", "(II)Z"⟩, prog_1_method_55_code, 2, some .boolean, (0, 0), 2, 0, am_s168, am_b168)
def am_m169 : am_M := (⟨"WashLine", "isWithin", "(II)Z"⟩, prog_1_method_55_code, 2, some .boolean, (0, 0), 2, 0, am_s169, am_b169)
def am_m170 : am_M := (⟨"WashLine", "isWithin", "(II)Z"⟩, prog_1_method_55_code, 2, some .boolean, (0, 0), 2, 0, am_s170, am_b170)
def am_m171 : am_M := (⟨"WashLine", "isWithin", "(II)Z"⟩, prog_1_method_55_code, 2, some .boolean, (0, 0), 2, 0, am_s171, am_b171)
def am_m172 : am_M := (⟨"WashLineLaw", "low", "(II)I"⟩, method_2_code, 2, some .int, (0, 0), 2, 0, am_s172, am_b172)
def am_m173 : am_M := (⟨"WashLineLaw", "cell", "([II)I"⟩, method_3_code, 2, some .int, (0, 0), 2, 0, am_s173, am_b173)
def am_m174 : am_M := (⟨"WashLineLaw", "told", "(LWashLine;I)I"⟩, method_4_code, 2, some .int, (1, 20), 2, 0, am_s174, am_b174)
def am_m175 : am_M := (⟨"WashLineLaw", "world", "(LWashLine;[III[I[I[I[I)I"⟩, method_5_code, 17, some .int, (7, 152), 8, 0, am_s175, am_b175)
def am_m176 : am_M := (⟨"WashLineLaw", "houses", "(I)[I"⟩, method_6_code, 4, some (.array .int), (0, 0), 1, 0, am_s176, am_b176)
def am_m177 : am_M := (⟨"WashLineLaw", "mondays", "(LWashLine;[IIII[I[I[I[I)I"⟩, method_9_code, 18, some .int, (3, 72), 9, 0, am_s177, am_b177)
def am_m178 : am_M := (⟨"WashLineLaw", "sum", "([III)I"⟩, method_8_code, 3, some .int, (0, 0), 3, 0, am_s178, am_b178)
def am_meths : List am_M := [am_m0, am_m1, am_m2, am_m3, am_m4, am_m5, am_m6, am_m7, am_m8, am_m9, am_m10, am_m11, am_m12, am_m13, am_m14, am_m15, am_m16, am_m17, am_m18, am_m19, am_m20, am_m21, am_m22, am_m23, am_m24, am_m25, am_m26, am_m27, am_m28, am_m29, am_m30, am_m31, am_m32, am_m33, am_m34, am_m35, am_m36, am_m37, am_m38, am_m39, am_m40, am_m41, am_m42, am_m43, am_m44, am_m45, am_m46, am_m47, am_m48, am_m49, am_m50, am_m51, am_m52, am_m53, am_m54, am_m55, am_m56, am_m57, am_m58, am_m59, am_m60, am_m61, am_m62, am_m63, am_m64, am_m65, am_m66, am_m67, am_m68, am_m69, am_m70, am_m71, am_m72, am_m73, am_m74, am_m75, am_m76, am_m77, am_m78, am_m79, am_m80, am_m81, am_m82, am_m83, am_m84, am_m85, am_m86, am_m87, am_m88, am_m89, am_m90, am_m91, am_m92, am_m93, am_m94, am_m95, am_m96, am_m97, am_m98, am_m99, am_m100, am_m101, am_m102, am_m103, am_m104, am_m105, am_m106, am_m107, am_m108, am_m109, am_m110, am_m111, am_m112, am_m113, am_m114, am_m115, am_m116, am_m117, am_m118, am_m119, am_m120, am_m121, am_m122, am_m123, am_m124, am_m125, am_m126, am_m127, am_m128, am_m129, am_m130, am_m131, am_m132, am_m133, am_m134, am_m135, am_m136, am_m137, am_m138, am_m139, am_m140, am_m141, am_m142, am_m143, am_m144, am_m145, am_m146, am_m147, am_m148, am_m149, am_m150, am_m151, am_m152, am_m153, am_m154, am_m155, am_m156, am_m157, am_m158, am_m159, am_m160, am_m161, am_m162, am_m163, am_m164, am_m165, am_m166, am_m167, am_m168, am_m169, am_m170, am_m171, am_m172, am_m173, am_m174, am_m175, am_m176, am_m177, am_m178]
/-- frames, words, locals, arguments, call: what a caller must know -/
def am_RM : List (Nat × Nat × Nat × Nat × Nat) := [(10, 378, 25, 1, 0), (6, 134, 2, 1, 2), (2, 43, 1, 1, 2), (1, 23, 1, 1, 1), (0, 0, 4, 2, 0), (3, 63, 1, 1, 3), (1, 20, 2, 2, 2), (5, 113, 2, 2, 2), (4, 91, 3, 1, 1), (3, 71, 1, 1, 1), (1, 22, 5, 4, 0), (0, 0, 3, 3, 0), (2, 46, 6, 3, 1), (0, 0, 5, 2, 1), (0, 0, 6, 2, 1), (0, 0, 4, 3, 1), (1, 20, 1, 1, 3), (1, 20, 4, 4, 2), (1, 20, 3, 3, 2), (1, 20, 5, 5, 2), (1, 20, 3, 3, 2), (2, 45, 3, 3, 1), (1, 21, 1, 1, 0), (0, 0, 2, 2, 0), (0, 0, 2, 2, 1), (1, 23, 3, 3, 1), (2, 41, 4, 4, 1), (0, 0, 1, 1, 1), (0, 0, 2, 2, 1), (0, 0, 4, 3, 1), (0, 0, 3, 3, 1), (2, 41, 3, 3, 1), (0, 0, 2, 2, 0), (0, 0, 2, 2, 0), (0, 0, 2, 2, 0), (0, 0, 2, 2, 0), (0, 0, 2, 2, 0), (2, 45, 3, 3, 1), (1, 21, 1, 1, 0), (2, 41, 4, 4, 1), (6, 131, 2, 2, 1), (5, 108, 4, 2, 1), (2, 41, 2, 2, 1), (1, 21, 1, 1, 1), (4, 88, 1, 1, 1), (3, 64, 2, 1, 1), (2, 41, 4, 3, 1), (3, 64, 5, 1, 1), (3, 64, 2, 1, 1), (3, 64, 3, 1, 1), (0, 0, 2, 1, 1), (6, 131, 2, 2, 1), (1, 26, 2, 2, 1), (0, 0, 2, 1, 1), (0, 0, 1, 1, 1), (0, 0, 2, 2, 0), (1, 21, 2, 2, 1), (1, 21, 1, 1, 0), (0, 0, 2, 2, 0), (0, 0, 1, 1, 1), (0, 0, 2, 2, 0), (2, 49, 4, 4, 1), (1, 21, 1, 1, 0), (0, 0, 3, 2, 1), (1, 26, 4, 4, 1), (0, 0, 2, 2, 0), (1, 21, 2, 2, 1), (0, 0, 2, 2, 0), (0, 0, 2, 2, 0), (1, 21, 3, 2, 1), (2, 45, 5, 4, 1), (1, 22, 4, 4, 1), (0, 0, 3, 3, 1), (4, 97, 5, 3, 1), (3, 74, 4, 3, 1), (2, 51, 3, 3, 1), (1, 23, 9, 6, 1), (0, 0, 4, 4, 1), (0, 0, 4, 4, 1), (2, 51, 4, 3, 1), (2, 51, 4, 3, 1), (0, 0, 2, 2, 1), (3, 69, 4, 3, 1), (1, 23, 5, 3, 1), (2, 45, 5, 3, 1), (4, 96, 3, 2, 1), (3, 73, 4, 2, 1), (3, 71, 2, 2, 1), (2, 46, 6, 2, 1), (1, 23, 4, 2, 1), (5, 122, 3, 3, 1), (4, 97, 6, 3, 1), (4, 93, 5, 3, 1), (3, 70, 4, 2, 1), (2, 49, 2, 2, 1), (1, 26, 4, 3, 1), (0, 0, 7, 5, 1), (1, 25, 5, 2, 1), (0, 0, 6, 3, 1), (1, 26, 4, 3, 1), (0, 0, 3, 3, 1), (6, 141, 1, 1, 1), (5, 120, 2, 1, 1), (4, 97, 4, 2, 1), (3, 70, 3, 1, 1), (1, 23, 3, 2, 1), (0, 0, 1, 1, 1), (3, 73, 2, 1, 1), (2, 52, 2, 2, 1), (1, 26, 7, 2, 1), (2, 42, 4, 2, 1), (1, 20, 3, 3, 1), (4, 93, 5, 1, 1), (1, 22, 5, 4, 1), (6, 141, 3, 2, 1), (6, 142, 1, 1, 1), (5, 121, 2, 1, 1), (4, 93, 9, 2, 1), (1, 23, 2, 1, 0), (2, 46, 8, 2, 1), (6, 141, 3, 3, 1), (1, 23, 5, 3, 1), (1, 23, 5, 3, 1), (6, 142, 4, 4, 1), (0, 0, 8, 4, 1), (1, 30, 7, 3, 1), (0, 0, 11, 2, 0), (6, 141, 5, 3, 1), (6, 141, 3, 2, 1), (2, 42, 5, 2, 1), (2, 42, 6, 5, 1), (0, 0, 5, 5, 1), (0, 0, 2, 2, 0), (0, 0, 2, 2, 0), (0, 0, 2, 2, 0), (0, 0, 2, 2, 0), (0, 0, 2, 2, 0), (0, 0, 2, 2, 0), (3, 67, 4, 2, 1), (2, 46, 2, 2, 1), (1, 25, 2, 2, 1), (0, 0, 6, 1, 1), (0, 0, 2, 2, 1), (4, 90, 2, 2, 1), (0, 0, 3, 1, 1), (0, 0, 2, 2, 0), (0, 0, 2, 2, 0), (0, 0, 2, 2, 0), (0, 0, 2, 2, 0), (0, 0, 2, 2, 0), (0, 0, 2, 2, 0), (0, 0, 2, 2, 0), (3, 70, 3, 2, 1), (2, 45, 6, 2, 1), (4, 94, 2, 1, 1), (3, 70, 5, 1, 1), (0, 0, 2, 2, 0), (0, 0, 2, 2, 0), (0, 0, 1, 1, 1), (0, 0, 1, 1, 1), (0, 0, 1, 1, 1), (0, 0, 1, 1, 1), (0, 0, 2, 2, 0), (0, 0, 2, 2, 0), (0, 0, 2, 2, 0), (0, 0, 2, 2, 0), (0, 0, 2, 2, 0), (0, 0, 2, 2, 0), (0, 0, 2, 2, 0), (0, 0, 2, 2, 0), (0, 0, 2, 2, 0), (0, 0, 2, 2, 0), (0, 0, 2, 2, 0), (0, 0, 2, 2, 0), (1, 20, 2, 2, 0), (7, 152, 17, 8, 0), (0, 0, 4, 1, 0), (3, 72, 18, 9, 0), (0, 0, 3, 3, 0)]
