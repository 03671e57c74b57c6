theorem dX0_init_0 : decode cX0_init 0 = .ok (.aload_n 0, 1) := by decide +kernel
theorem dX0_init_1 : decode cX0_init 1 = .ok (.invokespecial 3, 3) := by decide +kernel
theorem dX0_init_4 : decode cX0_init 4 = .ok (.aload_n 0, 1) := by decide +kernel
theorem dX0_init_5 : decode cX0_init 5 = .ok (.new 9, 3) := by decide +kernel
theorem dX0_init_8 : decode cX0_init 8 = .ok (.dup, 1) := by decide +kernel
theorem dX0_init_9 : decode cX0_init 9 = .ok (.invokespecial 11, 3) := by decide +kernel
theorem dX0_init_12 : decode cX0_init 12 = .ok (.putfield 12, 3) := by decide +kernel
theorem dX0_init_15 : decode cX0_init 15 = .ok (.aload_n 0, 1) := by decide +kernel
theorem dX0_init_16 : decode cX0_init 16 = .ok (.iconst 1, 1) := by decide +kernel
theorem dX0_init_17 : decode cX0_init 17 = .ok (.putfield 18, 3) := by decide +kernel
theorem dX0_init_20 : decode cX0_init 20 = .ok (.aload_n 0, 1) := by decide +kernel
theorem dX0_init_21 : decode cX0_init 21 = .ok (.iconst 3, 1) := by decide +kernel
theorem dX0_init_22 : decode cX0_init 22 = .ok (.iconst 3, 1) := by decide +kernel
theorem dX0_init_23 : decode cX0_init 23 = .ok (.invokevirtual 22, 3) := by decide +kernel
theorem dX0_init_26 : decode cX0_init 26 = .ok (.return_, 1) := by decide +kernel
theorem dX0_cells_0 : decode cX0_cells 0 = .ok (.aload_n 0, 1) := by decide +kernel
theorem dX0_cells_1 : decode cX0_cells 1 = .ok (.getfield 26, 3) := by decide +kernel
theorem dX0_cells_4 : decode cX0_cells 4 = .ok (.aload_n 0, 1) := by decide +kernel
theorem dX0_cells_5 : decode cX0_cells 5 = .ok (.getfield 29, 3) := by decide +kernel
theorem dX0_cells_8 : decode cX0_cells 8 = .ok (.imul, 1) := by decide +kernel
theorem dX0_cells_9 : decode cX0_cells 9 = .ok (.ireturn, 1) := by decide +kernel
set_option maxRecDepth 20000 in
theorem ggX0_isCell_X0_cells : GoodIn wsX0_isCell wsX0_cells := goodIn_r _ [5, 6, 7, 8, 9, 10, 11, 12, 13, 14, 15, 16, 17, 18, 19, 20] (by decide +kernel) (by decide +kernel)
set_option maxRecDepth 20000 in
theorem gX0_isCell_X0_cells : GoodIn wsX0_isCell (wsV RX0 32 RX0 yX0_cells wsX0_cells) := goodIn_app (goodIn_of _ (by decide +kernel)) ggX0_isCell_X0_cells
theorem dX0_isCell_0 : decode cX0_isCell 0 = .ok (.iload_n 1, 1) := by decide +kernel
theorem dX0_isCell_1 : decode cX0_isCell 1 = .ok (.ifCond .lt 15, 3) := by decide +kernel
theorem dX0_isCell_4 : decode cX0_isCell 4 = .ok (.iload_n 1, 1) := by decide +kernel
theorem dX0_isCell_5 : decode cX0_isCell 5 = .ok (.aload_n 0, 1) := by decide +kernel
theorem dX0_isCell_6 : decode cX0_isCell 6 = .ok (.invokevirtual 32, 3) := by decide +kernel
theorem dX0_isCell_9 : decode cX0_isCell 9 = .ok (.if_icmp .ge 7, 3) := by decide +kernel
theorem dX0_isCell_12 : decode cX0_isCell 12 = .ok (.iconst 1, 1) := by decide +kernel
theorem dX0_isCell_13 : decode cX0_isCell 13 = .ok (.goto 4, 3) := by decide +kernel
theorem dX0_isCell_16 : decode cX0_isCell 16 = .ok (.iconst 0, 1) := by decide +kernel
theorem dX0_isCell_17 : decode cX0_isCell 17 = .ok (.ireturn, 1) := by decide +kernel
theorem dX0_open_0 : decode cX0_open 0 = .ok (.aload_n 0, 1) := by decide +kernel
theorem dX0_open_1 : decode cX0_open 1 = .ok (.getfield 36, 3) := by decide +kernel
theorem dX0_open_4 : decode cX0_open 4 = .ok (.aload_n 0, 1) := by decide +kernel
theorem dX0_open_5 : decode cX0_open 5 = .ok (.getfield 39, 3) := by decide +kernel
theorem dX0_open_8 : decode cX0_open 8 = .ok (.iconst (-1), 1) := by decide +kernel
theorem dX0_open_9 : decode cX0_open 9 = .ok (.ixor, 1) := by decide +kernel
theorem dX0_open_10 : decode cX0_open 10 = .ok (.iand, 1) := by decide +kernel
theorem dX0_open_11 : decode cX0_open 11 = .ok (.ireturn, 1) := by decide +kernel
set_option maxRecDepth 20000 in
theorem ggX0_layOut_X0_cells : GoodIn wsX0_layOut wsX0_cells := goodIn_r _ [12, 1, 2, 31, 32, 33, 34, 35, 36, 37, 38, 39, 40, 41, 42, 43] (by decide +kernel) (by decide +kernel)
set_option maxRecDepth 20000 in
theorem gX0_layOut_X0_cells : GoodIn wsX0_layOut (wsV RX0 32 RX0 yX0_cells wsX0_cells) := goodIn_app (goodIn_of _ (by decide +kernel)) ggX0_layOut_X0_cells
set_option maxRecDepth 20000 in
theorem ggX0_layOut_X8_bit : GoodIn wsX0_layOut wsX8_bit := goodIn_r _ [15] (by decide +kernel) (by decide +kernel)
set_option maxRecDepth 20000 in
theorem gX0_layOut_X8_bit_n42 : GoodIn wsX0_layOut (wsX8_bit) := ggX0_layOut_X8_bit
set_option maxRecDepth 20000 in
theorem ggX0_layOut_X0_clearCells : GoodIn wsX0_layOut wsX0_clearCells := goodIn_r _ [19, 20, 21, 22, 23, 24, 25, 26, 27, 28, 29, 30, 31, 32, 33, 34, 35, 36, 37, 38, 39, 40, 41, 42, 43, 44, 45, 46, 47] (by decide +kernel) (by decide +kernel)
set_option maxRecDepth 20000 in
theorem gX0_layOut_X0_clearCells : GoodIn wsX0_layOut (wsV RX0 52 RX0 yX0_clearCells wsX0_clearCells) := goodIn_app (goodIn_of _ (by decide +kernel)) ggX0_layOut_X0_clearCells
theorem dX0_layOut_0 : decode cX0_layOut 0 = .ok (.aload_n 0, 1) := by decide +kernel
theorem dX0_layOut_1 : decode cX0_layOut 1 = .ok (.iload_n 1, 1) := by decide +kernel
theorem dX0_layOut_2 : decode cX0_layOut 2 = .ok (.putfield 26, 3) := by decide +kernel
theorem dX0_layOut_5 : decode cX0_layOut 5 = .ok (.aload_n 0, 1) := by decide +kernel
theorem dX0_layOut_6 : decode cX0_layOut 6 = .ok (.iload_n 2, 1) := by decide +kernel
theorem dX0_layOut_7 : decode cX0_layOut 7 = .ok (.putfield 29, 3) := by decide +kernel
theorem dX0_layOut_10 : decode cX0_layOut 10 = .ok (.aload_n 0, 1) := by decide +kernel
theorem dX0_layOut_11 : decode cX0_layOut 11 = .ok (.aload_n 0, 1) := by decide +kernel
theorem dX0_layOut_12 : decode cX0_layOut 12 = .ok (.invokevirtual 32, 3) := by decide +kernel
theorem dX0_layOut_15 : decode cX0_layOut 15 = .ok (.invokestatic 42, 3) := by decide +kernel
theorem dX0_layOut_18 : decode cX0_layOut 18 = .ok (.iconst 1, 1) := by decide +kernel
theorem dX0_layOut_19 : decode cX0_layOut 19 = .ok (.isub, 1) := by decide +kernel
theorem dX0_layOut_20 : decode cX0_layOut 20 = .ok (.putfield 36, 3) := by decide +kernel
theorem dX0_layOut_23 : decode cX0_layOut 23 = .ok (.aload_n 0, 1) := by decide +kernel
theorem dX0_layOut_24 : decode cX0_layOut 24 = .ok (.iconst 0, 1) := by decide +kernel
theorem dX0_layOut_25 : decode cX0_layOut 25 = .ok (.putfield 46, 3) := by decide +kernel
theorem dX0_layOut_28 : decode cX0_layOut 28 = .ok (.iconst 0, 1) := by decide +kernel
theorem dX0_layOut_29 : decode cX0_layOut 29 = .ok (.istore_n 3, 1) := by decide +kernel
theorem dX0_layOut_30 : decode cX0_layOut 30 = .ok (.iload_n 3, 1) := by decide +kernel
theorem dX0_layOut_31 : decode cX0_layOut 31 = .ok (.aload_n 0, 1) := by decide +kernel
theorem dX0_layOut_32 : decode cX0_layOut 32 = .ok (.getfield 26, 3) := by decide +kernel
theorem dX0_layOut_35 : decode cX0_layOut 35 = .ok (.if_icmp .ge 27, 3) := by decide +kernel
theorem dX0_layOut_38 : decode cX0_layOut 38 = .ok (.aload_n 0, 1) := by decide +kernel
theorem dX0_layOut_39 : decode cX0_layOut 39 = .ok (.dup, 1) := by decide +kernel
theorem dX0_layOut_40 : decode cX0_layOut 40 = .ok (.getfield 46, 3) := by decide +kernel
theorem dX0_layOut_43 : decode cX0_layOut 43 = .ok (.iload_n 3, 1) := by decide +kernel
theorem dX0_layOut_44 : decode cX0_layOut 44 = .ok (.aload_n 0, 1) := by decide +kernel
theorem dX0_layOut_45 : decode cX0_layOut 45 = .ok (.getfield 29, 3) := by decide +kernel
theorem dX0_layOut_48 : decode cX0_layOut 48 = .ok (.imul, 1) := by decide +kernel
theorem dX0_layOut_49 : decode cX0_layOut 49 = .ok (.invokestatic 42, 3) := by decide +kernel
theorem dX0_layOut_52 : decode cX0_layOut 52 = .ok (.ior, 1) := by decide +kernel
theorem dX0_layOut_53 : decode cX0_layOut 53 = .ok (.putfield 46, 3) := by decide +kernel
theorem dX0_layOut_56 : decode cX0_layOut 56 = .ok (.iinc 3 1, 3) := by decide +kernel
theorem dX0_layOut_59 : decode cX0_layOut 59 = .ok (.goto (-29), 3) := by decide +kernel
theorem dX0_layOut_62 : decode cX0_layOut 62 = .ok (.aload_n 0, 1) := by decide +kernel
theorem dX0_layOut_63 : decode cX0_layOut 63 = .ok (.aload_n 0, 1) := by decide +kernel
theorem dX0_layOut_64 : decode cX0_layOut 64 = .ok (.getfield 46, 3) := by decide +kernel
theorem dX0_layOut_67 : decode cX0_layOut 67 = .ok (.aload_n 0, 1) := by decide +kernel
theorem dX0_layOut_68 : decode cX0_layOut 68 = .ok (.getfield 29, 3) := by decide +kernel
theorem dX0_layOut_71 : decode cX0_layOut 71 = .ok (.iconst 1, 1) := by decide +kernel
theorem dX0_layOut_72 : decode cX0_layOut 72 = .ok (.isub, 1) := by decide +kernel
theorem dX0_layOut_73 : decode cX0_layOut 73 = .ok (.ishl, 1) := by decide +kernel
theorem dX0_layOut_74 : decode cX0_layOut 74 = .ok (.putfield 49, 3) := by decide +kernel
theorem dX0_layOut_77 : decode cX0_layOut 77 = .ok (.aload_n 0, 1) := by decide +kernel
theorem dX0_layOut_78 : decode cX0_layOut 78 = .ok (.invokevirtual 52, 3) := by decide +kernel
theorem dX0_layOut_81 : decode cX0_layOut 81 = .ok (.aload_n 0, 1) := by decide +kernel
theorem dX0_layOut_82 : decode cX0_layOut 82 = .ok (.iconst 0, 1) := by decide +kernel
theorem dX0_layOut_83 : decode cX0_layOut 83 = .ok (.putfield 55, 3) := by decide +kernel
theorem dX0_layOut_86 : decode cX0_layOut 86 = .ok (.aload_n 0, 1) := by decide +kernel
theorem dX0_layOut_87 : decode cX0_layOut 87 = .ok (.aload_n 0, 1) := by decide +kernel
theorem dX0_layOut_88 : decode cX0_layOut 88 = .ok (.invokevirtual 32, 3) := by decide +kernel
theorem dX0_layOut_91 : decode cX0_layOut 91 = .ok (.iconst 1, 1) := by decide +kernel
theorem dX0_layOut_92 : decode cX0_layOut 92 = .ok (.isub, 1) := by decide +kernel
theorem dX0_layOut_93 : decode cX0_layOut 93 = .ok (.putfield 58, 3) := by decide +kernel
theorem dX0_layOut_96 : decode cX0_layOut 96 = .ok (.return_, 1) := by decide +kernel
set_option maxRecDepth 20000 in
theorem ggX0_clearCells_X4_clear : GoodIn wsX0_clearCells wsX4_clear := goodIn_r _ [10, 11, 25, 26, 27, 28] (by decide +kernel) (by decide +kernel)
set_option maxRecDepth 20000 in
theorem gX0_clearCells_X4_clear : GoodIn wsX0_clearCells (wsV RX0 70 RX4 yX4_clear wsX4_clear) := goodIn_app (goodIn_of _ (by decide +kernel)) ggX0_clearCells_X4_clear
theorem dX0_clearCells_0 : decode cX0_clearCells 0 = .ok (.aload_n 0, 1) := by decide +kernel
theorem dX0_clearCells_1 : decode cX0_clearCells 1 = .ok (.iconst 0, 1) := by decide +kernel
theorem dX0_clearCells_2 : decode cX0_clearCells 2 = .ok (.putfield 39, 3) := by decide +kernel
theorem dX0_clearCells_5 : decode cX0_clearCells 5 = .ok (.aload_n 0, 1) := by decide +kernel
theorem dX0_clearCells_6 : decode cX0_clearCells 6 = .ok (.iconst 0, 1) := by decide +kernel
theorem dX0_clearCells_7 : decode cX0_clearCells 7 = .ok (.putfield 61, 3) := by decide +kernel
theorem dX0_clearCells_10 : decode cX0_clearCells 10 = .ok (.aload_n 0, 1) := by decide +kernel
theorem dX0_clearCells_11 : decode cX0_clearCells 11 = .ok (.iconst 0, 1) := by decide +kernel
theorem dX0_clearCells_12 : decode cX0_clearCells 12 = .ok (.putfield 64, 3) := by decide +kernel
theorem dX0_clearCells_15 : decode cX0_clearCells 15 = .ok (.aload_n 0, 1) := by decide +kernel
theorem dX0_clearCells_16 : decode cX0_clearCells 16 = .ok (.iconst 0, 1) := by decide +kernel
theorem dX0_clearCells_17 : decode cX0_clearCells 17 = .ok (.putfield 67, 3) := by decide +kernel
theorem dX0_clearCells_20 : decode cX0_clearCells 20 = .ok (.aload_n 0, 1) := by decide +kernel
theorem dX0_clearCells_21 : decode cX0_clearCells 21 = .ok (.getfield 12, 3) := by decide +kernel
theorem dX0_clearCells_24 : decode cX0_clearCells 24 = .ok (.invokevirtual 70, 3) := by decide +kernel
theorem dX0_clearCells_27 : decode cX0_clearCells 27 = .ok (.pop, 1) := by decide +kernel
theorem dX0_clearCells_28 : decode cX0_clearCells 28 = .ok (.return_, 1) := by decide +kernel
set_option maxRecDepth 20000 in
theorem ggX0_furnish_X0_clearCells : GoodIn wsX0_furnish wsX0_clearCells := goodIn_r _ [8, 2, 9, 10, 11, 12, 13, 14, 15, 16, 17, 18, 55, 56, 57, 58, 59, 60, 61, 62, 63, 64, 65, 66, 67, 68, 69, 70, 71] (by decide +kernel) (by decide +kernel)
set_option maxRecDepth 20000 in
theorem gX0_furnish_X0_clearCells : GoodIn wsX0_furnish (wsV RX0 52 RX0 yX0_clearCells wsX0_clearCells) := goodIn_app (goodIn_of _ (by decide +kernel)) ggX0_furnish_X0_clearCells
set_option maxRecDepth 20000 in
theorem ggX0_furnish_X0_cells : GoodIn wsX0_furnish wsX0_cells := goodIn_r _ [22, 23, 24, 55, 56, 57, 58, 59, 60, 61, 62, 63, 64, 65, 66, 67] (by decide +kernel) (by decide +kernel)
set_option maxRecDepth 20000 in
theorem gX0_furnish_X0_cells : GoodIn wsX0_furnish (wsV RX0 32 RX0 yX0_cells wsX0_cells) := goodIn_app (goodIn_of _ (by decide +kernel)) ggX0_furnish_X0_cells
set_option maxRecDepth 20000 in
theorem ggX0_furnish_X2_signAt : GoodIn wsX0_furnish wsX2_signAt := goodIn_r _ [29, 30, 31, 72, 73] (by decide +kernel) (by decide +kernel)
set_option maxRecDepth 20000 in
theorem gX0_furnish_X2_signAt : GoodIn wsX0_furnish (wsV RX0 73 RX2 yX2_signAt wsX2_signAt) := goodIn_app (goodIn_of _ (by decide +kernel)) ggX0_furnish_X2_signAt
set_option maxRecDepth 20000 in
theorem ggX0_furnish_X0_furnishCell : GoodIn wsX0_furnish wsX0_furnishCell := goodIn_r _ [35, 2, 9, 10, 11, 36, 37, 38, 55, 56, 57, 58, 59, 60, 61, 62, 63, 64, 65, 66, 67] (by decide +kernel) (by decide +kernel)
set_option maxRecDepth 20000 in
theorem gX0_furnish_X0_furnishCell : GoodIn wsX0_furnish (wsV RX0 79 RX0 yX0_furnishCell wsX0_furnishCell) := goodIn_app (goodIn_of _ (by decide +kernel)) ggX0_furnish_X0_furnishCell
set_option maxRecDepth 20000 in
theorem ggX0_furnish_X0_open : GoodIn wsX0_furnish wsX0_open := goodIn_r _ [42, 43, 2, 55, 56, 57, 58, 59, 60, 61, 62, 63, 64, 65, 66, 67] (by decide +kernel) (by decide +kernel)
set_option maxRecDepth 20000 in
theorem gX0_furnish_X0_open : GoodIn wsX0_furnish (wsV RX0 83 RX0 yX0_open wsX0_open) := goodIn_app (goodIn_of _ (by decide +kernel)) ggX0_furnish_X0_open
set_option maxRecDepth 20000 in
theorem ggX0_furnish_X8_cellOf : GoodIn wsX0_furnish wsX8_cellOf := goodIn_r _ [45, 46, 47, 48, 49, 50, 51, 52] (by decide +kernel) (by decide +kernel)
set_option maxRecDepth 20000 in
theorem gX0_furnish_X8_cellOf_n86 : GoodIn wsX0_furnish (wsX8_cellOf) := ggX0_furnish_X8_cellOf
set_option maxRecDepth 20000 in
theorem ggX0_furnish_X8_has : GoodIn wsX0_furnish wsX8_has := goodIn_r _ [54] (by decide +kernel) (by decide +kernel)
set_option maxRecDepth 20000 in
theorem gX0_furnish_X8_has_n89 : GoodIn wsX0_furnish (wsX8_has) := ggX0_furnish_X8_has
theorem dX0_furnish_0 : decode cX0_furnish 0 = .ok (.aload_n 0, 1) := by decide +kernel
theorem dX0_furnish_1 : decode cX0_furnish 1 = .ok (.invokevirtual 52, 3) := by decide +kernel
theorem dX0_furnish_4 : decode cX0_furnish 4 = .ok (.iconst 0, 1) := by decide +kernel
theorem dX0_furnish_5 : decode cX0_furnish 5 = .ok (.istore_n 2, 1) := by decide +kernel
theorem dX0_furnish_6 : decode cX0_furnish 6 = .ok (.iload_n 2, 1) := by decide +kernel
theorem dX0_furnish_7 : decode cX0_furnish 7 = .ok (.aload_n 0, 1) := by decide +kernel
theorem dX0_furnish_8 : decode cX0_furnish 8 = .ok (.invokevirtual 32, 3) := by decide +kernel
theorem dX0_furnish_11 : decode cX0_furnish 11 = .ok (.if_icmp .ge 19, 3) := by decide +kernel
theorem dX0_furnish_14 : decode cX0_furnish 14 = .ok (.aload_n 0, 1) := by decide +kernel
theorem dX0_furnish_15 : decode cX0_furnish 15 = .ok (.iload_n 2, 1) := by decide +kernel
theorem dX0_furnish_16 : decode cX0_furnish 16 = .ok (.aload_n 1, 1) := by decide +kernel
theorem dX0_furnish_17 : decode cX0_furnish 17 = .ok (.iload_n 2, 1) := by decide +kernel
theorem dX0_furnish_18 : decode cX0_furnish 18 = .ok (.invokevirtual 73, 3) := by decide +kernel
theorem dX0_furnish_21 : decode cX0_furnish 21 = .ok (.invokevirtual 79, 3) := by decide +kernel
theorem dX0_furnish_24 : decode cX0_furnish 24 = .ok (.iinc 2 1, 3) := by decide +kernel
theorem dX0_furnish_27 : decode cX0_furnish 27 = .ok (.goto (-21), 3) := by decide +kernel
theorem dX0_furnish_30 : decode cX0_furnish 30 = .ok (.aload_n 0, 1) := by decide +kernel
theorem dX0_furnish_31 : decode cX0_furnish 31 = .ok (.aload_n 0, 1) := by decide +kernel
theorem dX0_furnish_32 : decode cX0_furnish 32 = .ok (.invokevirtual 83, 3) := by decide +kernel
theorem dX0_furnish_35 : decode cX0_furnish 35 = .ok (.aload_n 0, 1) := by decide +kernel
theorem dX0_furnish_36 : decode cX0_furnish 36 = .ok (.invokevirtual 83, 3) := by decide +kernel
theorem dX0_furnish_39 : decode cX0_furnish 39 = .ok (.ineg, 1) := by decide +kernel
theorem dX0_furnish_40 : decode cX0_furnish 40 = .ok (.iand, 1) := by decide +kernel
theorem dX0_furnish_41 : decode cX0_furnish 41 = .ok (.invokestatic 86, 3) := by decide +kernel
theorem dX0_furnish_44 : decode cX0_furnish 44 = .ok (.putfield 55, 3) := by decide +kernel
theorem dX0_furnish_47 : decode cX0_furnish 47 = .ok (.iconst 0, 1) := by decide +kernel
theorem dX0_furnish_48 : decode cX0_furnish 48 = .ok (.istore_n 2, 1) := by decide +kernel
theorem dX0_furnish_49 : decode cX0_furnish 49 = .ok (.iload_n 2, 1) := by decide +kernel
theorem dX0_furnish_50 : decode cX0_furnish 50 = .ok (.aload_n 0, 1) := by decide +kernel
theorem dX0_furnish_51 : decode cX0_furnish 51 = .ok (.invokevirtual 32, 3) := by decide +kernel
theorem dX0_furnish_54 : decode cX0_furnish 54 = .ok (.if_icmp .ge 25, 3) := by decide +kernel
theorem dX0_furnish_57 : decode cX0_furnish 57 = .ok (.aload_n 0, 1) := by decide +kernel
theorem dX0_furnish_58 : decode cX0_furnish 58 = .ok (.getfield 39, 3) := by decide +kernel
theorem dX0_furnish_61 : decode cX0_furnish 61 = .ok (.iload_n 2, 1) := by decide +kernel
theorem dX0_furnish_62 : decode cX0_furnish 62 = .ok (.invokestatic 89, 3) := by decide +kernel
theorem dX0_furnish_65 : decode cX0_furnish 65 = .ok (.ifCond .ne 8, 3) := by decide +kernel
theorem dX0_furnish_68 : decode cX0_furnish 68 = .ok (.aload_n 0, 1) := by decide +kernel
theorem dX0_furnish_69 : decode cX0_furnish 69 = .ok (.iload_n 2, 1) := by decide +kernel
theorem dX0_furnish_70 : decode cX0_furnish 70 = .ok (.putfield 58, 3) := by decide +kernel
theorem dX0_furnish_73 : decode cX0_furnish 73 = .ok (.iinc 2 1, 3) := by decide +kernel
theorem dX0_furnish_76 : decode cX0_furnish 76 = .ok (.goto (-27), 3) := by decide +kernel
theorem dX0_furnish_79 : decode cX0_furnish 79 = .ok (.return_, 1) := by decide +kernel
set_option maxRecDepth 20000 in
theorem ggX0_furnishCell_X8_bit : GoodIn wsX0_furnishCell wsX8_bit := goodIn_r _ [7] (by decide +kernel) (by decide +kernel)
set_option maxRecDepth 20000 in
theorem gX0_furnishCell_X8_bit_n42 : GoodIn wsX0_furnishCell (wsX8_bit) := ggX0_furnishCell_X8_bit
theorem dX0_furnishCell_0 : decode cX0_furnishCell 0 = .ok (.aload_n 0, 1) := by decide +kernel
theorem dX0_furnishCell_1 : decode cX0_furnishCell 1 = .ok (.dup, 1) := by decide +kernel
theorem dX0_furnishCell_2 : decode cX0_furnishCell 2 = .ok (.getfield 39, 3) := by decide +kernel
theorem dX0_furnishCell_5 : decode cX0_furnishCell 5 = .ok (.iload_n 2, 1) := by decide +kernel
theorem dX0_furnishCell_6 : decode cX0_furnishCell 6 = .ok (.bipush 35, 2) := by decide +kernel
theorem dX0_furnishCell_8 : decode cX0_furnishCell 8 = .ok (.if_icmp .ne 10, 3) := by decide +kernel
theorem dX0_furnishCell_11 : decode cX0_furnishCell 11 = .ok (.iload_n 1, 1) := by decide +kernel
theorem dX0_furnishCell_12 : decode cX0_furnishCell 12 = .ok (.invokestatic 42, 3) := by decide +kernel
theorem dX0_furnishCell_15 : decode cX0_furnishCell 15 = .ok (.goto 4, 3) := by decide +kernel
theorem dX0_furnishCell_18 : decode cX0_furnishCell 18 = .ok (.iconst 0, 1) := by decide +kernel
theorem dX0_furnishCell_19 : decode cX0_furnishCell 19 = .ok (.ior, 1) := by decide +kernel
theorem dX0_furnishCell_20 : decode cX0_furnishCell 20 = .ok (.putfield 39, 3) := by decide +kernel
theorem dX0_furnishCell_23 : decode cX0_furnishCell 23 = .ok (.aload_n 0, 1) := by decide +kernel
theorem dX0_furnishCell_24 : decode cX0_furnishCell 24 = .ok (.dup, 1) := by decide +kernel
theorem dX0_furnishCell_25 : decode cX0_furnishCell 25 = .ok (.getfield 61, 3) := by decide +kernel
theorem dX0_furnishCell_28 : decode cX0_furnishCell 28 = .ok (.iload_n 2, 1) := by decide +kernel
theorem dX0_furnishCell_29 : decode cX0_furnishCell 29 = .ok (.bipush 103, 2) := by decide +kernel
theorem dX0_furnishCell_31 : decode cX0_furnishCell 31 = .ok (.if_icmp .ne 10, 3) := by decide +kernel
theorem dX0_furnishCell_34 : decode cX0_furnishCell 34 = .ok (.iload_n 1, 1) := by decide +kernel
theorem dX0_furnishCell_35 : decode cX0_furnishCell 35 = .ok (.invokestatic 42, 3) := by decide +kernel
theorem dX0_furnishCell_38 : decode cX0_furnishCell 38 = .ok (.goto 4, 3) := by decide +kernel
theorem dX0_furnishCell_41 : decode cX0_furnishCell 41 = .ok (.iconst 0, 1) := by decide +kernel
theorem dX0_furnishCell_42 : decode cX0_furnishCell 42 = .ok (.ior, 1) := by decide +kernel
theorem dX0_furnishCell_43 : decode cX0_furnishCell 43 = .ok (.putfield 61, 3) := by decide +kernel
theorem dX0_furnishCell_46 : decode cX0_furnishCell 46 = .ok (.aload_n 0, 1) := by decide +kernel
theorem dX0_furnishCell_47 : decode cX0_furnishCell 47 = .ok (.dup, 1) := by decide +kernel
theorem dX0_furnishCell_48 : decode cX0_furnishCell 48 = .ok (.getfield 64, 3) := by decide +kernel
theorem dX0_furnishCell_51 : decode cX0_furnishCell 51 = .ok (.iload_n 2, 1) := by decide +kernel
theorem dX0_furnishCell_52 : decode cX0_furnishCell 52 = .ok (.bipush 99, 2) := by decide +kernel
theorem dX0_furnishCell_54 : decode cX0_furnishCell 54 = .ok (.if_icmp .ne 10, 3) := by decide +kernel
theorem dX0_furnishCell_57 : decode cX0_furnishCell 57 = .ok (.iload_n 1, 1) := by decide +kernel
theorem dX0_furnishCell_58 : decode cX0_furnishCell 58 = .ok (.invokestatic 42, 3) := by decide +kernel
theorem dX0_furnishCell_61 : decode cX0_furnishCell 61 = .ok (.goto 4, 3) := by decide +kernel
theorem dX0_furnishCell_64 : decode cX0_furnishCell 64 = .ok (.iconst 0, 1) := by decide +kernel
theorem dX0_furnishCell_65 : decode cX0_furnishCell 65 = .ok (.ior, 1) := by decide +kernel
theorem dX0_furnishCell_66 : decode cX0_furnishCell 66 = .ok (.putfield 64, 3) := by decide +kernel
theorem dX0_furnishCell_69 : decode cX0_furnishCell 69 = .ok (.aload_n 0, 1) := by decide +kernel
theorem dX0_furnishCell_70 : decode cX0_furnishCell 70 = .ok (.dup, 1) := by decide +kernel
theorem dX0_furnishCell_71 : decode cX0_furnishCell 71 = .ok (.getfield 67, 3) := by decide +kernel
theorem dX0_furnishCell_74 : decode cX0_furnishCell 74 = .ok (.iload_n 2, 1) := by decide +kernel
theorem dX0_furnishCell_75 : decode cX0_furnishCell 75 = .ok (.bipush 100, 2) := by decide +kernel
theorem dX0_furnishCell_77 : decode cX0_furnishCell 77 = .ok (.if_icmp .ne 10, 3) := by decide +kernel
theorem dX0_furnishCell_80 : decode cX0_furnishCell 80 = .ok (.iload_n 1, 1) := by decide +kernel
theorem dX0_furnishCell_81 : decode cX0_furnishCell 81 = .ok (.invokestatic 42, 3) := by decide +kernel
theorem dX0_furnishCell_84 : decode cX0_furnishCell 84 = .ok (.goto 4, 3) := by decide +kernel
theorem dX0_furnishCell_87 : decode cX0_furnishCell 87 = .ok (.iconst 0, 1) := by decide +kernel
theorem dX0_furnishCell_88 : decode cX0_furnishCell 88 = .ok (.ior, 1) := by decide +kernel
theorem dX0_furnishCell_89 : decode cX0_furnishCell 89 = .ok (.putfield 67, 3) := by decide +kernel
theorem dX0_furnishCell_92 : decode cX0_furnishCell 92 = .ok (.return_, 1) := by decide +kernel
set_option maxRecDepth 20000 in
theorem ggX0_signOf_X8_has : GoodIn wsX0_signOf wsX8_has := goodIn_r _ [7] (by decide +kernel) (by decide +kernel)
set_option maxRecDepth 20000 in
theorem gX0_signOf_X8_has_n89 : GoodIn wsX0_signOf (wsX8_has) := ggX0_signOf_X8_has
theorem dX0_signOf_0 : decode cX0_signOf 0 = .ok (.aload_n 0, 1) := by decide +kernel
theorem dX0_signOf_1 : decode cX0_signOf 1 = .ok (.getfield 39, 3) := by decide +kernel
theorem dX0_signOf_4 : decode cX0_signOf 4 = .ok (.iload_n 1, 1) := by decide +kernel
theorem dX0_signOf_5 : decode cX0_signOf 5 = .ok (.invokestatic 89, 3) := by decide +kernel
theorem dX0_signOf_8 : decode cX0_signOf 8 = .ok (.ifCond .eq 6, 3) := by decide +kernel
theorem dX0_signOf_11 : decode cX0_signOf 11 = .ok (.bipush 35, 2) := by decide +kernel
theorem dX0_signOf_13 : decode cX0_signOf 13 = .ok (.ireturn, 1) := by decide +kernel
theorem dX0_signOf_14 : decode cX0_signOf 14 = .ok (.aload_n 0, 1) := by decide +kernel
theorem dX0_signOf_15 : decode cX0_signOf 15 = .ok (.getfield 61, 3) := by decide +kernel
theorem dX0_signOf_18 : decode cX0_signOf 18 = .ok (.iload_n 1, 1) := by decide +kernel
theorem dX0_signOf_19 : decode cX0_signOf 19 = .ok (.invokestatic 89, 3) := by decide +kernel
theorem dX0_signOf_22 : decode cX0_signOf 22 = .ok (.ifCond .eq 6, 3) := by decide +kernel
theorem dX0_signOf_25 : decode cX0_signOf 25 = .ok (.bipush 103, 2) := by decide +kernel
theorem dX0_signOf_27 : decode cX0_signOf 27 = .ok (.ireturn, 1) := by decide +kernel
theorem dX0_signOf_28 : decode cX0_signOf 28 = .ok (.aload_n 0, 1) := by decide +kernel
theorem dX0_signOf_29 : decode cX0_signOf 29 = .ok (.getfield 64, 3) := by decide +kernel
theorem dX0_signOf_32 : decode cX0_signOf 32 = .ok (.iload_n 1, 1) := by decide +kernel
theorem dX0_signOf_33 : decode cX0_signOf 33 = .ok (.invokestatic 89, 3) := by decide +kernel
theorem dX0_signOf_36 : decode cX0_signOf 36 = .ok (.ifCond .eq 6, 3) := by decide +kernel
theorem dX0_signOf_39 : decode cX0_signOf 39 = .ok (.bipush 99, 2) := by decide +kernel
theorem dX0_signOf_41 : decode cX0_signOf 41 = .ok (.ireturn, 1) := by decide +kernel
theorem dX0_signOf_42 : decode cX0_signOf 42 = .ok (.aload_n 0, 1) := by decide +kernel
theorem dX0_signOf_43 : decode cX0_signOf 43 = .ok (.getfield 67, 3) := by decide +kernel
theorem dX0_signOf_46 : decode cX0_signOf 46 = .ok (.iload_n 1, 1) := by decide +kernel
theorem dX0_signOf_47 : decode cX0_signOf 47 = .ok (.invokestatic 89, 3) := by decide +kernel
theorem dX0_signOf_50 : decode cX0_signOf 50 = .ok (.ifCond .eq 8, 3) := by decide +kernel
theorem dX0_signOf_53 : decode cX0_signOf 53 = .ok (.bipush 100, 2) := by decide +kernel
theorem dX0_signOf_55 : decode cX0_signOf 55 = .ok (.goto 5, 3) := by decide +kernel
theorem dX0_signOf_58 : decode cX0_signOf 58 = .ok (.bipush 46, 2) := by decide +kernel
theorem dX0_signOf_60 : decode cX0_signOf 60 = .ok (.ireturn, 1) := by decide +kernel
theorem dX0_moveDoor_0 : decode cX0_moveDoor 0 = .ok (.aload_n 0, 1) := by decide +kernel
theorem dX0_moveDoor_1 : decode cX0_moveDoor 1 = .ok (.getfield 55, 3) := by decide +kernel
theorem dX0_moveDoor_4 : decode cX0_moveDoor 4 = .ok (.istore_n 2, 1) := by decide +kernel
theorem dX0_moveDoor_5 : decode cX0_moveDoor 5 = .ok (.aload_n 0, 1) := by decide +kernel
theorem dX0_moveDoor_6 : decode cX0_moveDoor 6 = .ok (.iload_n 1, 1) := by decide +kernel
theorem dX0_moveDoor_7 : decode cX0_moveDoor 7 = .ok (.putfield 55, 3) := by decide +kernel
theorem dX0_moveDoor_10 : decode cX0_moveDoor 10 = .ok (.iload_n 2, 1) := by decide +kernel
theorem dX0_moveDoor_11 : decode cX0_moveDoor 11 = .ok (.ireturn, 1) := by decide +kernel
theorem dX0_moveThing_0 : decode cX0_moveThing 0 = .ok (.aload_n 0, 1) := by decide +kernel
theorem dX0_moveThing_1 : decode cX0_moveThing 1 = .ok (.getfield 58, 3) := by decide +kernel
theorem dX0_moveThing_4 : decode cX0_moveThing 4 = .ok (.istore_n 2, 1) := by decide +kernel
theorem dX0_moveThing_5 : decode cX0_moveThing 5 = .ok (.aload_n 0, 1) := by decide +kernel
theorem dX0_moveThing_6 : decode cX0_moveThing 6 = .ok (.iload_n 1, 1) := by decide +kernel
theorem dX0_moveThing_7 : decode cX0_moveThing 7 = .ok (.putfield 58, 3) := by decide +kernel
theorem dX0_moveThing_10 : decode cX0_moveThing 10 = .ok (.iload_n 2, 1) := by decide +kernel
theorem dX0_moveThing_11 : decode cX0_moveThing 11 = .ok (.ireturn, 1) := by decide +kernel
theorem dX0_moved_0 : decode cX0_moved 0 = .ok (.iload_n 2, 1) := by decide +kernel
theorem dX0_moved_1 : decode cX0_moved 1 = .ok (.tableswitch 72 0 3 #[31, 38, 49, 61], 31) := by decide +kernel
theorem dX0_moved_32 : decode cX0_moved 32 = .ok (.iload_n 1, 1) := by decide +kernel
theorem dX0_moved_33 : decode cX0_moved 33 = .ok (.aload_n 0, 1) := by decide +kernel
theorem dX0_moved_34 : decode cX0_moved 34 = .ok (.getfield 29, 3) := by decide +kernel
theorem dX0_moved_37 : decode cX0_moved 37 = .ok (.iushr, 1) := by decide +kernel
theorem dX0_moved_38 : decode cX0_moved 38 = .ok (.ireturn, 1) := by decide +kernel
theorem dX0_moved_39 : decode cX0_moved 39 = .ok (.iload_n 1, 1) := by decide +kernel
theorem dX0_moved_40 : decode cX0_moved 40 = .ok (.aload_n 0, 1) := by decide +kernel
theorem dX0_moved_41 : decode cX0_moved 41 = .ok (.getfield 49, 3) := by decide +kernel
theorem dX0_moved_44 : decode cX0_moved 44 = .ok (.iconst (-1), 1) := by decide +kernel
theorem dX0_moved_45 : decode cX0_moved 45 = .ok (.ixor, 1) := by decide +kernel
theorem dX0_moved_46 : decode cX0_moved 46 = .ok (.iand, 1) := by decide +kernel
theorem dX0_moved_47 : decode cX0_moved 47 = .ok (.iconst 1, 1) := by decide +kernel
theorem dX0_moved_48 : decode cX0_moved 48 = .ok (.ishl, 1) := by decide +kernel
theorem dX0_moved_49 : decode cX0_moved 49 = .ok (.ireturn, 1) := by decide +kernel
theorem dX0_moved_50 : decode cX0_moved 50 = .ok (.iload_n 1, 1) := by decide +kernel
theorem dX0_moved_51 : decode cX0_moved 51 = .ok (.aload_n 0, 1) := by decide +kernel
theorem dX0_moved_52 : decode cX0_moved 52 = .ok (.getfield 29, 3) := by decide +kernel
theorem dX0_moved_55 : decode cX0_moved 55 = .ok (.ishl, 1) := by decide +kernel
theorem dX0_moved_56 : decode cX0_moved 56 = .ok (.aload_n 0, 1) := by decide +kernel
theorem dX0_moved_57 : decode cX0_moved 57 = .ok (.getfield 36, 3) := by decide +kernel
theorem dX0_moved_60 : decode cX0_moved 60 = .ok (.iand, 1) := by decide +kernel
theorem dX0_moved_61 : decode cX0_moved 61 = .ok (.ireturn, 1) := by decide +kernel
theorem dX0_moved_62 : decode cX0_moved 62 = .ok (.iload_n 1, 1) := by decide +kernel
theorem dX0_moved_63 : decode cX0_moved 63 = .ok (.aload_n 0, 1) := by decide +kernel
theorem dX0_moved_64 : decode cX0_moved 64 = .ok (.getfield 46, 3) := by decide +kernel
theorem dX0_moved_67 : decode cX0_moved 67 = .ok (.iconst (-1), 1) := by decide +kernel
theorem dX0_moved_68 : decode cX0_moved 68 = .ok (.ixor, 1) := by decide +kernel
theorem dX0_moved_69 : decode cX0_moved 69 = .ok (.iand, 1) := by decide +kernel
theorem dX0_moved_70 : decode cX0_moved 70 = .ok (.iconst 1, 1) := by decide +kernel
theorem dX0_moved_71 : decode cX0_moved 71 = .ok (.iushr, 1) := by decide +kernel
theorem dX0_moved_72 : decode cX0_moved 72 = .ok (.ireturn, 1) := by decide +kernel
theorem dX0_moved_73 : decode cX0_moved 73 = .ok (.iload_n 1, 1) := by decide +kernel
theorem dX0_moved_74 : decode cX0_moved 74 = .ok (.ireturn, 1) := by decide +kernel
set_option maxRecDepth 20000 in
theorem ggX0_stepTo_X0_moved : GoodIn wsX0_stepTo wsX0_moved := goodIn_r _ [5, 6, 7, 8, 9, 15, 16, 17, 18, 19, 20, 21, 22, 23, 24, 25, 26, 27] (by decide +kernel) (by decide +kernel)
set_option maxRecDepth 20000 in
theorem gX0_stepTo_X0_moved : GoodIn wsX0_stepTo (wsV RX0 93 RX0 yX0_moved wsX0_moved) := goodIn_app (goodIn_of _ (by decide +kernel)) ggX0_stepTo_X0_moved
set_option maxRecDepth 20000 in
theorem ggX0_stepTo_X0_open : GoodIn wsX0_stepTo wsX0_open := goodIn_r _ [13, 8, 14, 15, 16, 17, 18, 19, 20, 21, 22, 23, 24, 25, 26, 27] (by decide +kernel) (by decide +kernel)
set_option maxRecDepth 20000 in
theorem gX0_stepTo_X0_open : GoodIn wsX0_stepTo (wsV RX0 83 RX0 yX0_open wsX0_open) := goodIn_app (goodIn_of _ (by decide +kernel)) ggX0_stepTo_X0_open
theorem dX0_stepTo_0 : decode cX0_stepTo 0 = .ok (.aload_n 0, 1) := by decide +kernel
theorem dX0_stepTo_1 : decode cX0_stepTo 1 = .ok (.iload_n 1, 1) := by decide +kernel
theorem dX0_stepTo_2 : decode cX0_stepTo 2 = .ok (.iload_n 2, 1) := by decide +kernel
theorem dX0_stepTo_3 : decode cX0_stepTo 3 = .ok (.invokevirtual 93, 3) := by decide +kernel
theorem dX0_stepTo_6 : decode cX0_stepTo 6 = .ok (.aload_n 0, 1) := by decide +kernel
theorem dX0_stepTo_7 : decode cX0_stepTo 7 = .ok (.invokevirtual 83, 3) := by decide +kernel
theorem dX0_stepTo_10 : decode cX0_stepTo 10 = .ok (.iand, 1) := by decide +kernel
theorem dX0_stepTo_11 : decode cX0_stepTo 11 = .ok (.ireturn, 1) := by decide +kernel
set_option maxRecDepth 20000 in
theorem ggX0_stepOrStay_X0_stepTo : GoodIn wsX0_stepOrStay wsX0_stepTo := goodIn_r _ [5, 6, 7, 8, 4, 9, 10, 11, 12, 13, 14, 15, 16, 17, 18, 19, 20, 21, 22, 23, 24, 25, 26, 27, 28, 29, 30, 31] (by decide +kernel) (by decide +kernel)
set_option maxRecDepth 20000 in
theorem gX0_stepOrStay_X0_stepTo : GoodIn wsX0_stepOrStay (wsV RX0 97 RX0 yX0_stepTo wsX0_stepTo) := goodIn_app (goodIn_of _ (by decide +kernel)) ggX0_stepOrStay_X0_stepTo
theorem dX0_stepOrStay_0 : decode cX0_stepOrStay 0 = .ok (.aload_n 0, 1) := by decide +kernel
theorem dX0_stepOrStay_1 : decode cX0_stepOrStay 1 = .ok (.iload_n 1, 1) := by decide +kernel
theorem dX0_stepOrStay_2 : decode cX0_stepOrStay 2 = .ok (.iload_n 2, 1) := by decide +kernel
theorem dX0_stepOrStay_3 : decode cX0_stepOrStay 3 = .ok (.invokevirtual 97, 3) := by decide +kernel
theorem dX0_stepOrStay_6 : decode cX0_stepOrStay 6 = .ok (.istore_n 3, 1) := by decide +kernel
theorem dX0_stepOrStay_7 : decode cX0_stepOrStay 7 = .ok (.iload_n 3, 1) := by decide +kernel
theorem dX0_stepOrStay_8 : decode cX0_stepOrStay 8 = .ok (.ifCond .ne 7, 3) := by decide +kernel
theorem dX0_stepOrStay_11 : decode cX0_stepOrStay 11 = .ok (.iload_n 1, 1) := by decide +kernel
theorem dX0_stepOrStay_12 : decode cX0_stepOrStay 12 = .ok (.goto 4, 3) := by decide +kernel
theorem dX0_stepOrStay_15 : decode cX0_stepOrStay 15 = .ok (.iload_n 3, 1) := by decide +kernel
theorem dX0_stepOrStay_16 : decode cX0_stepOrStay 16 = .ok (.ireturn, 1) := by decide +kernel
set_option maxRecDepth 20000 in
theorem ggX0_spread_X0_moved : GoodIn wsX0_spread wsX0_moved := goodIn_r _ [5, 6, 7, 8, 9, 10, 11, 12, 13, 14, 15, 16, 17, 18, 19, 20, 21, 22] (by decide +kernel) (by decide +kernel)
set_option maxRecDepth 20000 in
theorem gX0_spread_X0_moved : GoodIn wsX0_spread (wsV RX0 93 RX0 yX0_moved wsX0_moved) := goodIn_app (goodIn_of _ (by decide +kernel)) ggX0_spread_X0_moved
theorem dX0_spread_0 : decode cX0_spread 0 = .ok (.iload_n 1, 1) := by decide +kernel
theorem dX0_spread_1 : decode cX0_spread 1 = .ok (.istore_n 2, 1) := by decide +kernel
theorem dX0_spread_2 : decode cX0_spread 2 = .ok (.iconst 0, 1) := by decide +kernel
theorem dX0_spread_3 : decode cX0_spread 3 = .ok (.istore_n 3, 1) := by decide +kernel
theorem dX0_spread_4 : decode cX0_spread 4 = .ok (.iload_n 3, 1) := by decide +kernel
theorem dX0_spread_5 : decode cX0_spread 5 = .ok (.iconst 4, 1) := by decide +kernel
theorem dX0_spread_6 : decode cX0_spread 6 = .ok (.if_icmp .ge 18, 3) := by decide +kernel
theorem dX0_spread_9 : decode cX0_spread 9 = .ok (.iload_n 2, 1) := by decide +kernel
theorem dX0_spread_10 : decode cX0_spread 10 = .ok (.aload_n 0, 1) := by decide +kernel
theorem dX0_spread_11 : decode cX0_spread 11 = .ok (.iload_n 1, 1) := by decide +kernel
theorem dX0_spread_12 : decode cX0_spread 12 = .ok (.iload_n 3, 1) := by decide +kernel
theorem dX0_spread_13 : decode cX0_spread 13 = .ok (.invokevirtual 93, 3) := by decide +kernel
theorem dX0_spread_16 : decode cX0_spread 16 = .ok (.ior, 1) := by decide +kernel
theorem dX0_spread_17 : decode cX0_spread 17 = .ok (.istore_n 2, 1) := by decide +kernel
theorem dX0_spread_18 : decode cX0_spread 18 = .ok (.iinc 3 1, 3) := by decide +kernel
theorem dX0_spread_21 : decode cX0_spread 21 = .ok (.goto (-17), 3) := by decide +kernel
theorem dX0_spread_24 : decode cX0_spread 24 = .ok (.iload_n 2, 1) := by decide +kernel
theorem dX0_spread_25 : decode cX0_spread 25 = .ok (.ireturn, 1) := by decide +kernel
set_option maxRecDepth 20000 in
theorem ggX0_around_X8_bit : GoodIn wsX0_around wsX8_bit := goodIn_r _ [3] (by decide +kernel) (by decide +kernel)
set_option maxRecDepth 20000 in
theorem gX0_around_X8_bit_n42 : GoodIn wsX0_around (wsX8_bit) := ggX0_around_X8_bit
set_option maxRecDepth 20000 in
theorem ggX0_around_X0_spread : GoodIn wsX0_around wsX0_spread := goodIn_r _ [8, 9, 10, 11, 7, 12, 13, 14, 15, 16, 17, 18, 19, 20, 21, 22, 23, 24, 25, 26, 27, 28, 29] (by decide +kernel) (by decide +kernel)
set_option maxRecDepth 20000 in
theorem gX0_around_X0_spread : GoodIn wsX0_around (wsV RX0 100 RX0 yX0_spread wsX0_spread) := goodIn_app (goodIn_of _ (by decide +kernel)) ggX0_around_X0_spread
theorem dX0_around_0 : decode cX0_around 0 = .ok (.iload_n 1, 1) := by decide +kernel
theorem dX0_around_1 : decode cX0_around 1 = .ok (.invokestatic 42, 3) := by decide +kernel
theorem dX0_around_4 : decode cX0_around 4 = .ok (.istore_n 3, 1) := by decide +kernel
theorem dX0_around_5 : decode cX0_around 5 = .ok (.iconst 0, 1) := by decide +kernel
theorem dX0_around_6 : decode cX0_around 6 = .ok (.istore 4, 2) := by decide +kernel
theorem dX0_around_8 : decode cX0_around 8 = .ok (.iload 4, 2) := by decide +kernel
theorem dX0_around_10 : decode cX0_around 10 = .ok (.iload_n 2, 1) := by decide +kernel
theorem dX0_around_11 : decode cX0_around 11 = .ok (.if_icmp .ge 15, 3) := by decide +kernel
theorem dX0_around_14 : decode cX0_around 14 = .ok (.aload_n 0, 1) := by decide +kernel
theorem dX0_around_15 : decode cX0_around 15 = .ok (.iload_n 3, 1) := by decide +kernel
theorem dX0_around_16 : decode cX0_around 16 = .ok (.invokevirtual 100, 3) := by decide +kernel
theorem dX0_around_19 : decode cX0_around 19 = .ok (.istore_n 3, 1) := by decide +kernel
theorem dX0_around_20 : decode cX0_around 20 = .ok (.iinc 4 1, 3) := by decide +kernel
theorem dX0_around_23 : decode cX0_around 23 = .ok (.goto (-15), 3) := by decide +kernel
theorem dX0_around_26 : decode cX0_around 26 = .ok (.iload_n 3, 1) := by decide +kernel
theorem dX0_around_27 : decode cX0_around 27 = .ok (.ireturn, 1) := by decide +kernel
set_option maxRecDepth 20000 in
theorem ggX0_sightFrom_X8_bit : GoodIn wsX0_sightFrom wsX8_bit := goodIn_r _ [4] (by decide +kernel) (by decide +kernel)
set_option maxRecDepth 20000 in
theorem gX0_sightFrom_X8_bit_n42 : GoodIn wsX0_sightFrom (wsX8_bit) := ggX0_sightFrom_X8_bit
set_option maxRecDepth 20000 in
theorem ggX0_sightFrom_X0_moved : GoodIn wsX0_sightFrom wsX0_moved := goodIn_r _ [9, 10, 11, 12, 13, 14, 15, 16, 17, 18, 19, 20, 21, 22, 23, 24, 25, 26] (by decide +kernel) (by decide +kernel)
set_option maxRecDepth 20000 in
theorem gX0_sightFrom_X0_moved : GoodIn wsX0_sightFrom (wsV RX0 93 RX0 yX0_moved wsX0_moved) := goodIn_app (goodIn_of _ (by decide +kernel)) ggX0_sightFrom_X0_moved
theorem dX0_sightFrom_0 : decode cX0_sightFrom 0 = .ok (.iload_n 1, 1) := by decide +kernel
theorem dX0_sightFrom_1 : decode cX0_sightFrom 1 = .ok (.invokestatic 42, 3) := by decide +kernel
theorem dX0_sightFrom_4 : decode cX0_sightFrom 4 = .ok (.istore_n 3, 1) := by decide +kernel
theorem dX0_sightFrom_5 : decode cX0_sightFrom 5 = .ok (.iload_n 3, 1) := by decide +kernel
theorem dX0_sightFrom_6 : decode cX0_sightFrom 6 = .ok (.istore 4, 2) := by decide +kernel
theorem dX0_sightFrom_8 : decode cX0_sightFrom 8 = .ok (.iconst 1, 1) := by decide +kernel
theorem dX0_sightFrom_9 : decode cX0_sightFrom 9 = .ok (.istore 5, 2) := by decide +kernel
theorem dX0_sightFrom_11 : decode cX0_sightFrom 11 = .ok (.iload 5, 2) := by decide +kernel
theorem dX0_sightFrom_13 : decode cX0_sightFrom 13 = .ok (.iconst 4, 1) := by decide +kernel
theorem dX0_sightFrom_14 : decode cX0_sightFrom 14 = .ok (.if_icmp .ge 29, 3) := by decide +kernel
theorem dX0_sightFrom_17 : decode cX0_sightFrom 17 = .ok (.aload_n 0, 1) := by decide +kernel
theorem dX0_sightFrom_18 : decode cX0_sightFrom 18 = .ok (.iload_n 3, 1) := by decide +kernel
theorem dX0_sightFrom_19 : decode cX0_sightFrom 19 = .ok (.iload_n 2, 1) := by decide +kernel
theorem dX0_sightFrom_20 : decode cX0_sightFrom 20 = .ok (.invokevirtual 93, 3) := by decide +kernel
theorem dX0_sightFrom_23 : decode cX0_sightFrom 23 = .ok (.aload_n 0, 1) := by decide +kernel
theorem dX0_sightFrom_24 : decode cX0_sightFrom 24 = .ok (.getfield 39, 3) := by decide +kernel
theorem dX0_sightFrom_27 : decode cX0_sightFrom 27 = .ok (.iconst (-1), 1) := by decide +kernel
theorem dX0_sightFrom_28 : decode cX0_sightFrom 28 = .ok (.ixor, 1) := by decide +kernel
theorem dX0_sightFrom_29 : decode cX0_sightFrom 29 = .ok (.iand, 1) := by decide +kernel
theorem dX0_sightFrom_30 : decode cX0_sightFrom 30 = .ok (.istore_n 3, 1) := by decide +kernel
theorem dX0_sightFrom_31 : decode cX0_sightFrom 31 = .ok (.iload 4, 2) := by decide +kernel
theorem dX0_sightFrom_33 : decode cX0_sightFrom 33 = .ok (.iload_n 3, 1) := by decide +kernel
theorem dX0_sightFrom_34 : decode cX0_sightFrom 34 = .ok (.ior, 1) := by decide +kernel
theorem dX0_sightFrom_35 : decode cX0_sightFrom 35 = .ok (.istore 4, 2) := by decide +kernel
theorem dX0_sightFrom_37 : decode cX0_sightFrom 37 = .ok (.iinc 5 1, 3) := by decide +kernel
theorem dX0_sightFrom_40 : decode cX0_sightFrom 40 = .ok (.goto (-29), 3) := by decide +kernel
theorem dX0_sightFrom_43 : decode cX0_sightFrom 43 = .ok (.iload 4, 2) := by decide +kernel
theorem dX0_sightFrom_45 : decode cX0_sightFrom 45 = .ok (.ireturn, 1) := by decide +kernel
set_option maxRecDepth 20000 in
theorem ggX0_seenBy_X4_cellOfOne : GoodIn wsX0_seenBy wsX4_cellOfOne := goodIn_r _ [6, 7, 8, 9, 10, 45, 46, 47, 48] (by decide +kernel) (by decide +kernel)
set_option maxRecDepth 20000 in
theorem gX0_seenBy_X4_cellOfOne : GoodIn wsX0_seenBy (wsV RX0 103 RX4 yX4_cellOfOne wsX4_cellOfOne) := goodIn_app (goodIn_of _ (by decide +kernel)) ggX0_seenBy_X4_cellOfOne
set_option maxRecDepth 20000 in
theorem ggX0_seenBy_X4_lookingOf : GoodIn wsX0_seenBy wsX4_lookingOf := goodIn_r _ [14, 15, 8, 9, 10, 45, 46, 47, 48] (by decide +kernel) (by decide +kernel)
set_option maxRecDepth 20000 in
theorem gX0_seenBy_X4_lookingOf : GoodIn wsX0_seenBy (wsV RX0 106 RX4 yX4_lookingOf wsX4_lookingOf) := goodIn_app (goodIn_of _ (by decide +kernel)) ggX0_seenBy_X4_lookingOf
set_option maxRecDepth 20000 in
theorem ggX0_seenBy_X0_sightFrom : GoodIn wsX0_seenBy wsX0_sightFrom := goodIn_r _ [20, 21, 22, 9, 23, 24, 25, 26, 19, 27, 28, 29, 30, 31, 32, 33, 34, 35, 36, 37, 38, 39, 40, 41, 42, 43, 44] (by decide +kernel) (by decide +kernel)
set_option maxRecDepth 20000 in
theorem gX0_seenBy_X0_sightFrom : GoodIn wsX0_seenBy (wsV RX0 109 RX0 yX0_sightFrom wsX0_sightFrom) := goodIn_app (goodIn_of _ (by decide +kernel)) ggX0_seenBy_X0_sightFrom
theorem dX0_seenBy_0 : decode cX0_seenBy 0 = .ok (.aload_n 0, 1) := by decide +kernel
theorem dX0_seenBy_1 : decode cX0_seenBy 1 = .ok (.aload_n 0, 1) := by decide +kernel
theorem dX0_seenBy_2 : decode cX0_seenBy 2 = .ok (.getfield 12, 3) := by decide +kernel
theorem dX0_seenBy_5 : decode cX0_seenBy 5 = .ok (.iload_n 1, 1) := by decide +kernel
theorem dX0_seenBy_6 : decode cX0_seenBy 6 = .ok (.invokevirtual 103, 3) := by decide +kernel
theorem dX0_seenBy_9 : decode cX0_seenBy 9 = .ok (.aload_n 0, 1) := by decide +kernel
theorem dX0_seenBy_10 : decode cX0_seenBy 10 = .ok (.getfield 12, 3) := by decide +kernel
theorem dX0_seenBy_13 : decode cX0_seenBy 13 = .ok (.iload_n 1, 1) := by decide +kernel
theorem dX0_seenBy_14 : decode cX0_seenBy 14 = .ok (.invokevirtual 106, 3) := by decide +kernel
theorem dX0_seenBy_17 : decode cX0_seenBy 17 = .ok (.invokevirtual 109, 3) := by decide +kernel
theorem dX0_seenBy_20 : decode cX0_seenBy 20 = .ok (.ireturn, 1) := by decide +kernel
set_option maxRecDepth 20000 in
theorem ggX0_spoiledFrom_X0_sightFrom : GoodIn wsX0_spoiledFrom wsX0_sightFrom := goodIn_r _ [9, 10, 11, 12, 13, 14, 15, 16, 8, 17, 18, 19, 20, 21, 30, 31, 32, 33, 34, 35, 36, 37, 38, 39, 40, 41, 42] (by decide +kernel) (by decide +kernel)
set_option maxRecDepth 20000 in
theorem gX0_spoiledFrom_X0_sightFrom : GoodIn wsX0_spoiledFrom (wsV RX0 109 RX0 yX0_sightFrom wsX0_sightFrom) := goodIn_app (goodIn_of _ (by decide +kernel)) ggX0_spoiledFrom_X0_sightFrom
set_option maxRecDepth 20000 in
theorem ggX0_spoiledFrom_X0_around : GoodIn wsX0_spoiledFrom wsX0_around := goodIn_r _ [25, 11, 12, 13, 26, 27, 28, 8, 29, 14, 15, 16, 17, 18, 19, 20, 21, 30, 31, 32, 33, 34, 35, 36, 37, 38, 39, 40, 41, 42] (by decide +kernel) (by decide +kernel)
set_option maxRecDepth 20000 in
theorem gX0_spoiledFrom_X0_around : GoodIn wsX0_spoiledFrom (wsV RX0 112 RX0 yX0_around wsX0_around) := goodIn_app (goodIn_of _ (by decide +kernel)) ggX0_spoiledFrom_X0_around
theorem dX0_spoiledFrom_0 : decode cX0_spoiledFrom 0 = .ok (.aload_n 0, 1) := by decide +kernel
theorem dX0_spoiledFrom_1 : decode cX0_spoiledFrom 1 = .ok (.iload_n 1, 1) := by decide +kernel
theorem dX0_spoiledFrom_2 : decode cX0_spoiledFrom 2 = .ok (.iload_n 2, 1) := by decide +kernel
theorem dX0_spoiledFrom_3 : decode cX0_spoiledFrom 3 = .ok (.invokevirtual 109, 3) := by decide +kernel
theorem dX0_spoiledFrom_6 : decode cX0_spoiledFrom 6 = .ok (.aload_n 0, 1) := by decide +kernel
theorem dX0_spoiledFrom_7 : decode cX0_spoiledFrom 7 = .ok (.getfield 61, 3) := by decide +kernel
theorem dX0_spoiledFrom_10 : decode cX0_spoiledFrom 10 = .ok (.aload_n 0, 1) := by decide +kernel
theorem dX0_spoiledFrom_11 : decode cX0_spoiledFrom 11 = .ok (.getfield 67, 3) := by decide +kernel
theorem dX0_spoiledFrom_14 : decode cX0_spoiledFrom 14 = .ok (.ior, 1) := by decide +kernel
theorem dX0_spoiledFrom_15 : decode cX0_spoiledFrom 15 = .ok (.iand, 1) := by decide +kernel
theorem dX0_spoiledFrom_16 : decode cX0_spoiledFrom 16 = .ok (.aload_n 0, 1) := by decide +kernel
theorem dX0_spoiledFrom_17 : decode cX0_spoiledFrom 17 = .ok (.iload_n 1, 1) := by decide +kernel
theorem dX0_spoiledFrom_18 : decode cX0_spoiledFrom 18 = .ok (.aload_n 0, 1) := by decide +kernel
theorem dX0_spoiledFrom_19 : decode cX0_spoiledFrom 19 = .ok (.getfield 18, 3) := by decide +kernel
theorem dX0_spoiledFrom_22 : decode cX0_spoiledFrom 22 = .ok (.invokevirtual 112, 3) := by decide +kernel
theorem dX0_spoiledFrom_25 : decode cX0_spoiledFrom 25 = .ok (.aload_n 0, 1) := by decide +kernel
theorem dX0_spoiledFrom_26 : decode cX0_spoiledFrom 26 = .ok (.getfield 64, 3) := by decide +kernel
theorem dX0_spoiledFrom_29 : decode cX0_spoiledFrom 29 = .ok (.iand, 1) := by decide +kernel
theorem dX0_spoiledFrom_30 : decode cX0_spoiledFrom 30 = .ok (.ior, 1) := by decide +kernel
theorem dX0_spoiledFrom_31 : decode cX0_spoiledFrom 31 = .ok (.istore 4, 2) := by decide +kernel
theorem dX0_spoiledFrom_33 : decode cX0_spoiledFrom 33 = .ok (.iload_n 3, 1) := by decide +kernel
theorem dX0_spoiledFrom_34 : decode cX0_spoiledFrom 34 = .ok (.ifCond .eq 15, 3) := by decide +kernel
theorem dX0_spoiledFrom_37 : decode cX0_spoiledFrom 37 = .ok (.iload 4, 2) := by decide +kernel
theorem dX0_spoiledFrom_39 : decode cX0_spoiledFrom 39 = .ok (.aload_n 0, 1) := by decide +kernel
theorem dX0_spoiledFrom_40 : decode cX0_spoiledFrom 40 = .ok (.iload_n 1, 1) := by decide +kernel
theorem dX0_spoiledFrom_41 : decode cX0_spoiledFrom 41 = .ok (.iconst 1, 1) := by decide +kernel
theorem dX0_spoiledFrom_42 : decode cX0_spoiledFrom 42 = .ok (.invokevirtual 112, 3) := by decide +kernel
theorem dX0_spoiledFrom_45 : decode cX0_spoiledFrom 45 = .ok (.ior, 1) := by decide +kernel
theorem dX0_spoiledFrom_46 : decode cX0_spoiledFrom 46 = .ok (.goto 5, 3) := by decide +kernel
theorem dX0_spoiledFrom_49 : decode cX0_spoiledFrom 49 = .ok (.iload 4, 2) := by decide +kernel
theorem dX0_spoiledFrom_51 : decode cX0_spoiledFrom 51 = .ok (.ireturn, 1) := by decide +kernel
set_option maxRecDepth 20000 in
theorem ggX0_bareCells_X0_open : GoodIn wsX0_bareCells wsX0_open := goodIn_r _ [7, 8, 9, 58, 59, 60, 61, 62, 63, 64, 65, 66, 67, 68, 69, 70] (by decide +kernel) (by decide +kernel)
set_option maxRecDepth 20000 in
theorem gX0_bareCells_X0_open : GoodIn wsX0_bareCells (wsV RX0 83 RX0 yX0_open wsX0_open) := goodIn_app (goodIn_of _ (by decide +kernel)) ggX0_bareCells_X0_open
set_option maxRecDepth 20000 in
theorem ggX0_bareCells_X4_cellOfOne : GoodIn wsX0_bareCells wsX4_cellOfOne := goodIn_r _ [14, 15, 16, 17, 18, 71, 72, 73, 74] (by decide +kernel) (by decide +kernel)
set_option maxRecDepth 20000 in
theorem gX0_bareCells_X4_cellOfOne : GoodIn wsX0_bareCells (wsV RX0 103 RX4 yX4_cellOfOne wsX4_cellOfOne) := goodIn_app (goodIn_of _ (by decide +kernel)) ggX0_bareCells_X4_cellOfOne
set_option maxRecDepth 20000 in
theorem ggX0_bareCells_X4_lookingOf : GoodIn wsX0_bareCells wsX4_lookingOf := goodIn_r _ [22, 23, 16, 17, 18, 71, 72, 73, 74] (by decide +kernel) (by decide +kernel)
set_option maxRecDepth 20000 in
theorem gX0_bareCells_X4_lookingOf : GoodIn wsX0_bareCells (wsV RX0 106 RX4 yX4_lookingOf wsX4_lookingOf) := goodIn_app (goodIn_of _ (by decide +kernel)) ggX0_bareCells_X4_lookingOf
set_option maxRecDepth 20000 in
theorem ggX0_bareCells_X4_hasDog : GoodIn wsX0_bareCells wsX4_hasDog := goodIn_r _ [27, 28, 16, 17, 18, 71, 72, 73, 74] (by decide +kernel) (by decide +kernel)
set_option maxRecDepth 20000 in
theorem gX0_bareCells_X4_hasDog : GoodIn wsX0_bareCells (wsV RX0 118 RX4 yX4_hasDog wsX4_hasDog) := goodIn_app (goodIn_of _ (by decide +kernel)) ggX0_bareCells_X4_hasDog
set_option maxRecDepth 20000 in
theorem ggX0_bareCells_X0_spoiledFrom : GoodIn wsX0_bareCells wsX0_spoiledFrom := goodIn_r _ [32, 33, 34, 35, 36, 37, 38, 39, 6, 40, 9, 41, 17, 42, 43, 44, 45, 46, 47, 48, 8, 49, 50, 51, 52, 53, 54, 55, 56, 57, 58, 59, 60, 61, 62, 63, 64, 65, 66, 67, 68, 69, 70] (by decide +kernel) (by decide +kernel)
set_option maxRecDepth 20000 in
theorem gX0_bareCells_X0_spoiledFrom : GoodIn wsX0_bareCells (wsV RX0 122 RX0 yX0_spoiledFrom wsX0_spoiledFrom) := goodIn_app (goodIn_of _ (by decide +kernel)) ggX0_bareCells_X0_spoiledFrom
theorem dX0_bareCells_0 : decode cX0_bareCells 0 = .ok (.aload_n 0, 1) := by decide +kernel
theorem dX0_bareCells_1 : decode cX0_bareCells 1 = .ok (.invokevirtual 83, 3) := by decide +kernel
theorem dX0_bareCells_4 : decode cX0_bareCells 4 = .ok (.istore_n 1, 1) := by decide +kernel
theorem dX0_bareCells_5 : decode cX0_bareCells 5 = .ok (.iconst 0, 1) := by decide +kernel
theorem dX0_bareCells_6 : decode cX0_bareCells 6 = .ok (.istore_n 2, 1) := by decide +kernel
theorem dX0_bareCells_7 : decode cX0_bareCells 7 = .ok (.iload_n 2, 1) := by decide +kernel
theorem dX0_bareCells_8 : decode cX0_bareCells 8 = .ok (.aload_n 0, 1) := by decide +kernel
theorem dX0_bareCells_9 : decode cX0_bareCells 9 = .ok (.getfield 12, 3) := by decide +kernel
theorem dX0_bareCells_12 : decode cX0_bareCells 12 = .ok (.getfield 115, 3) := by decide +kernel
theorem dX0_bareCells_15 : decode cX0_bareCells 15 = .ok (.if_icmp .ge 42, 3) := by decide +kernel
theorem dX0_bareCells_18 : decode cX0_bareCells 18 = .ok (.iload_n 1, 1) := by decide +kernel
theorem dX0_bareCells_19 : decode cX0_bareCells 19 = .ok (.aload_n 0, 1) := by decide +kernel
theorem dX0_bareCells_20 : decode cX0_bareCells 20 = .ok (.aload_n 0, 1) := by decide +kernel
theorem dX0_bareCells_21 : decode cX0_bareCells 21 = .ok (.getfield 12, 3) := by decide +kernel
theorem dX0_bareCells_24 : decode cX0_bareCells 24 = .ok (.iload_n 2, 1) := by decide +kernel
theorem dX0_bareCells_25 : decode cX0_bareCells 25 = .ok (.invokevirtual 103, 3) := by decide +kernel
theorem dX0_bareCells_28 : decode cX0_bareCells 28 = .ok (.aload_n 0, 1) := by decide +kernel
theorem dX0_bareCells_29 : decode cX0_bareCells 29 = .ok (.getfield 12, 3) := by decide +kernel
theorem dX0_bareCells_32 : decode cX0_bareCells 32 = .ok (.iload_n 2, 1) := by decide +kernel
theorem dX0_bareCells_33 : decode cX0_bareCells 33 = .ok (.invokevirtual 106, 3) := by decide +kernel
theorem dX0_bareCells_36 : decode cX0_bareCells 36 = .ok (.aload_n 0, 1) := by decide +kernel
theorem dX0_bareCells_37 : decode cX0_bareCells 37 = .ok (.getfield 12, 3) := by decide +kernel
theorem dX0_bareCells_40 : decode cX0_bareCells 40 = .ok (.iload_n 2, 1) := by decide +kernel
theorem dX0_bareCells_41 : decode cX0_bareCells 41 = .ok (.invokevirtual 118, 3) := by decide +kernel
theorem dX0_bareCells_44 : decode cX0_bareCells 44 = .ok (.invokevirtual 122, 3) := by decide +kernel
theorem dX0_bareCells_47 : decode cX0_bareCells 47 = .ok (.iconst (-1), 1) := by decide +kernel
theorem dX0_bareCells_48 : decode cX0_bareCells 48 = .ok (.ixor, 1) := by decide +kernel
theorem dX0_bareCells_49 : decode cX0_bareCells 49 = .ok (.iand, 1) := by decide +kernel
theorem dX0_bareCells_50 : decode cX0_bareCells 50 = .ok (.istore_n 1, 1) := by decide +kernel
theorem dX0_bareCells_51 : decode cX0_bareCells 51 = .ok (.iinc 2 1, 3) := by decide +kernel
theorem dX0_bareCells_54 : decode cX0_bareCells 54 = .ok (.goto (-47), 3) := by decide +kernel
theorem dX0_bareCells_57 : decode cX0_bareCells 57 = .ok (.iload_n 1, 1) := by decide +kernel
theorem dX0_bareCells_58 : decode cX0_bareCells 58 = .ok (.ireturn, 1) := by decide +kernel
set_option maxRecDepth 20000 in
theorem ggX0_copyFrom_X0_layOut : GoodIn wsX0_copyFrom wsX0_layOut := goodIn_r _ [15, 1, 2, 16, 17, 18, 7, 8, 19, 20, 21, 14, 22, 23, 24, 25, 26, 27, 28, 29, 3, 4, 5, 6, 10, 30, 31, 32, 33, 34, 35, 68, 69, 70, 71, 72, 73, 74, 75, 76, 77, 78, 79, 80, 81, 82, 83, 84] (by decide +kernel) (by decide +kernel)
set_option maxRecDepth 20000 in
theorem gX0_copyFrom_X0_layOut : GoodIn wsX0_copyFrom (wsV RX0 22 RX0 yX0_layOut wsX0_layOut) := goodIn_app (goodIn_of _ (by decide +kernel)) ggX0_copyFrom_X0_layOut
set_option maxRecDepth 20000 in
theorem ggX0_copyFrom_X4_copyFrom : GoodIn wsX0_copyFrom wsX4_copyFrom := goodIn_r _ [39, 35, 40, 31, 32, 33, 34, 41, 42, 43, 44, 45, 46, 24, 47, 48, 49, 50, 51, 52, 53, 54, 55, 56, 57, 58, 59, 60, 61, 62, 63, 64, 65, 66, 67, 81, 82, 83, 84] (by decide +kernel) (by decide +kernel)
set_option maxRecDepth 20000 in
theorem gX0_copyFrom_X4_copyFrom : GoodIn wsX0_copyFrom (wsV RX0 126 RX4 yX4_copyFrom wsX4_copyFrom) := goodIn_app (goodIn_of _ (by decide +kernel)) ggX0_copyFrom_X4_copyFrom
theorem dX0_copyFrom_0 : decode cX0_copyFrom 0 = .ok (.aload_n 0, 1) := by decide +kernel
theorem dX0_copyFrom_1 : decode cX0_copyFrom 1 = .ok (.aload_n 1, 1) := by decide +kernel
theorem dX0_copyFrom_2 : decode cX0_copyFrom 2 = .ok (.getfield 26, 3) := by decide +kernel
theorem dX0_copyFrom_5 : decode cX0_copyFrom 5 = .ok (.aload_n 1, 1) := by decide +kernel
theorem dX0_copyFrom_6 : decode cX0_copyFrom 6 = .ok (.getfield 29, 3) := by decide +kernel
theorem dX0_copyFrom_9 : decode cX0_copyFrom 9 = .ok (.invokevirtual 22, 3) := by decide +kernel
theorem dX0_copyFrom_12 : decode cX0_copyFrom 12 = .ok (.aload_n 0, 1) := by decide +kernel
theorem dX0_copyFrom_13 : decode cX0_copyFrom 13 = .ok (.aload_n 1, 1) := by decide +kernel
theorem dX0_copyFrom_14 : decode cX0_copyFrom 14 = .ok (.getfield 39, 3) := by decide +kernel
theorem dX0_copyFrom_17 : decode cX0_copyFrom 17 = .ok (.putfield 39, 3) := by decide +kernel
theorem dX0_copyFrom_20 : decode cX0_copyFrom 20 = .ok (.aload_n 0, 1) := by decide +kernel
theorem dX0_copyFrom_21 : decode cX0_copyFrom 21 = .ok (.aload_n 1, 1) := by decide +kernel
theorem dX0_copyFrom_22 : decode cX0_copyFrom 22 = .ok (.getfield 61, 3) := by decide +kernel
theorem dX0_copyFrom_25 : decode cX0_copyFrom 25 = .ok (.putfield 61, 3) := by decide +kernel
theorem dX0_copyFrom_28 : decode cX0_copyFrom 28 = .ok (.aload_n 0, 1) := by decide +kernel
theorem dX0_copyFrom_29 : decode cX0_copyFrom 29 = .ok (.aload_n 1, 1) := by decide +kernel
theorem dX0_copyFrom_30 : decode cX0_copyFrom 30 = .ok (.getfield 64, 3) := by decide +kernel
theorem dX0_copyFrom_33 : decode cX0_copyFrom 33 = .ok (.putfield 64, 3) := by decide +kernel
theorem dX0_copyFrom_36 : decode cX0_copyFrom 36 = .ok (.aload_n 0, 1) := by decide +kernel
theorem dX0_copyFrom_37 : decode cX0_copyFrom 37 = .ok (.aload_n 1, 1) := by decide +kernel
theorem dX0_copyFrom_38 : decode cX0_copyFrom 38 = .ok (.getfield 67, 3) := by decide +kernel
theorem dX0_copyFrom_41 : decode cX0_copyFrom 41 = .ok (.putfield 67, 3) := by decide +kernel
theorem dX0_copyFrom_44 : decode cX0_copyFrom 44 = .ok (.aload_n 0, 1) := by decide +kernel
theorem dX0_copyFrom_45 : decode cX0_copyFrom 45 = .ok (.aload_n 1, 1) := by decide +kernel
theorem dX0_copyFrom_46 : decode cX0_copyFrom 46 = .ok (.getfield 55, 3) := by decide +kernel
theorem dX0_copyFrom_49 : decode cX0_copyFrom 49 = .ok (.putfield 55, 3) := by decide +kernel
theorem dX0_copyFrom_52 : decode cX0_copyFrom 52 = .ok (.aload_n 0, 1) := by decide +kernel
theorem dX0_copyFrom_53 : decode cX0_copyFrom 53 = .ok (.aload_n 1, 1) := by decide +kernel
theorem dX0_copyFrom_54 : decode cX0_copyFrom 54 = .ok (.getfield 58, 3) := by decide +kernel
theorem dX0_copyFrom_57 : decode cX0_copyFrom 57 = .ok (.putfield 58, 3) := by decide +kernel
theorem dX0_copyFrom_60 : decode cX0_copyFrom 60 = .ok (.aload_n 0, 1) := by decide +kernel
theorem dX0_copyFrom_61 : decode cX0_copyFrom 61 = .ok (.aload_n 1, 1) := by decide +kernel
theorem dX0_copyFrom_62 : decode cX0_copyFrom 62 = .ok (.getfield 18, 3) := by decide +kernel
theorem dX0_copyFrom_65 : decode cX0_copyFrom 65 = .ok (.putfield 18, 3) := by decide +kernel
theorem dX0_copyFrom_68 : decode cX0_copyFrom 68 = .ok (.aload_n 0, 1) := by decide +kernel
theorem dX0_copyFrom_69 : decode cX0_copyFrom 69 = .ok (.getfield 12, 3) := by decide +kernel
theorem dX0_copyFrom_72 : decode cX0_copyFrom 72 = .ok (.aload_n 1, 1) := by decide +kernel
theorem dX0_copyFrom_73 : decode cX0_copyFrom 73 = .ok (.getfield 12, 3) := by decide +kernel
theorem dX0_copyFrom_76 : decode cX0_copyFrom 76 = .ok (.invokevirtual 126, 3) := by decide +kernel
theorem dX0_copyFrom_79 : decode cX0_copyFrom 79 = .ok (.return_, 1) := by decide +kernel
set_option maxRecDepth 20000 in
theorem ggX1_init_X0_init : GoodIn wsX1_init wsX0_init := goodIn_r _ [10, 11, 2, 3, 12, 13, 14, 15, 16, 17, 18, 19, 20, 21, 22, 23, 24, 25, 26, 6, 27, 28, 29, 30, 31, 32, 33, 34, 35, 36, 37, 38, 39, 40, 41, 42, 43, 44, 45, 46, 47, 48, 49, 50, 51, 52, 53, 54, 70, 71, 72, 73, 55, 56, 57, 58, 59, 60, 61, 62, 63, 64, 65, 66, 67] (by decide +kernel) (by decide +kernel)
set_option maxRecDepth 20000 in
theorem gX1_init_X0_init : GoodIn wsX1_init (wsX0_init) := ggX1_init_X0_init
theorem dX1_init_0 : decode cX1_init 0 = .ok (.aload_n 0, 1) := by decide +kernel
theorem dX1_init_1 : decode cX1_init 1 = .ok (.invokespecial 1, 3) := by decide +kernel
theorem dX1_init_4 : decode cX1_init 4 = .ok (.aload_n 0, 1) := by decide +kernel
theorem dX1_init_5 : decode cX1_init 5 = .ok (.new 7, 3) := by decide +kernel
theorem dX1_init_8 : decode cX1_init 8 = .ok (.dup, 1) := by decide +kernel
theorem dX1_init_9 : decode cX1_init 9 = .ok (.invokespecial 9, 3) := by decide +kernel
theorem dX1_init_12 : decode cX1_init 12 = .ok (.putfield 10, 3) := by decide +kernel
theorem dX1_init_15 : decode cX1_init 15 = .ok (.return_, 1) := by decide +kernel
theorem dX2_init_0 : decode cX2_init 0 = .ok (.aload_n 0, 1) := by decide +kernel
theorem dX2_init_1 : decode cX2_init 1 = .ok (.invokespecial 3, 3) := by decide +kernel
theorem dX2_init_4 : decode cX2_init 4 = .ok (.aload_n 0, 1) := by decide +kernel
theorem dX2_init_5 : decode cX2_init 5 = .ok (.bipush 40, 2) := by decide +kernel
theorem dX2_init_7 : decode cX2_init 7 = .ok (.newarray .char, 2) := by decide +kernel
theorem dX2_init_9 : decode cX2_init 9 = .ok (.putfield 9, 3) := by decide +kernel
theorem dX2_init_12 : decode cX2_init 12 = .ok (.return_, 1) := by decide +kernel
theorem dX2_add_0 : decode cX2_add 0 = .ok (.aload_n 0, 1) := by decide +kernel
theorem dX2_add_1 : decode cX2_add 1 = .ok (.getfield 15, 3) := by decide +kernel
theorem dX2_add_4 : decode cX2_add 4 = .ok (.ifCond .lt 15, 3) := by decide +kernel
theorem dX2_add_7 : decode cX2_add 7 = .ok (.aload_n 0, 1) := by decide +kernel
theorem dX2_add_8 : decode cX2_add 8 = .ok (.getfield 15, 3) := by decide +kernel
theorem dX2_add_11 : decode cX2_add 11 = .ok (.aload_n 0, 1) := by decide +kernel
theorem dX2_add_12 : decode cX2_add 12 = .ok (.getfield 9, 3) := by decide +kernel
theorem dX2_add_15 : decode cX2_add 15 = .ok (.arraylength, 1) := by decide +kernel
theorem dX2_add_16 : decode cX2_add 16 = .ok (.if_icmp .lt 5, 3) := by decide +kernel
theorem dX2_add_19 : decode cX2_add 19 = .ok (.iconst 0, 1) := by decide +kernel
theorem dX2_add_20 : decode cX2_add 20 = .ok (.ireturn, 1) := by decide +kernel
theorem dX2_add_21 : decode cX2_add 21 = .ok (.aload_n 0, 1) := by decide +kernel
theorem dX2_add_22 : decode cX2_add 22 = .ok (.getfield 9, 3) := by decide +kernel
theorem dX2_add_25 : decode cX2_add 25 = .ok (.aload_n 0, 1) := by decide +kernel
theorem dX2_add_26 : decode cX2_add 26 = .ok (.getfield 15, 3) := by decide +kernel
theorem dX2_add_29 : decode cX2_add 29 = .ok (.iload_n 1, 1) := by decide +kernel
theorem dX2_add_30 : decode cX2_add 30 = .ok (.castore, 1) := by decide +kernel
theorem dX2_add_31 : decode cX2_add 31 = .ok (.aload_n 0, 1) := by decide +kernel
theorem dX2_add_32 : decode cX2_add 32 = .ok (.dup, 1) := by decide +kernel
theorem dX2_add_33 : decode cX2_add 33 = .ok (.getfield 15, 3) := by decide +kernel
theorem dX2_add_36 : decode cX2_add 36 = .ok (.iconst 1, 1) := by decide +kernel
theorem dX2_add_37 : decode cX2_add 37 = .ok (.iadd, 1) := by decide +kernel
theorem dX2_add_38 : decode cX2_add 38 = .ok (.putfield 15, 3) := by decide +kernel
theorem dX2_add_41 : decode cX2_add 41 = .ok (.iconst 1, 1) := by decide +kernel
theorem dX2_add_42 : decode cX2_add 42 = .ok (.ireturn, 1) := by decide +kernel
theorem dX2_clear_0 : decode cX2_clear 0 = .ok (.aload_n 0, 1) := by decide +kernel
theorem dX2_clear_1 : decode cX2_clear 1 = .ok (.getfield 15, 3) := by decide +kernel
theorem dX2_clear_4 : decode cX2_clear 4 = .ok (.istore_n 1, 1) := by decide +kernel
theorem dX2_clear_5 : decode cX2_clear 5 = .ok (.aload_n 0, 1) := by decide +kernel
theorem dX2_clear_6 : decode cX2_clear 6 = .ok (.iconst 0, 1) := by decide +kernel
theorem dX2_clear_7 : decode cX2_clear 7 = .ok (.putfield 15, 3) := by decide +kernel
theorem dX2_clear_10 : decode cX2_clear 10 = .ok (.iload_n 1, 1) := by decide +kernel
theorem dX2_clear_11 : decode cX2_clear 11 = .ok (.ireturn, 1) := by decide +kernel
theorem dX2_signAt_0 : decode cX2_signAt 0 = .ok (.iload_n 1, 1) := by decide +kernel
theorem dX2_signAt_1 : decode cX2_signAt 1 = .ok (.ifCond .lt 29, 3) := by decide +kernel
theorem dX2_signAt_4 : decode cX2_signAt 4 = .ok (.iload_n 1, 1) := by decide +kernel
theorem dX2_signAt_5 : decode cX2_signAt 5 = .ok (.aload_n 0, 1) := by decide +kernel
theorem dX2_signAt_6 : decode cX2_signAt 6 = .ok (.getfield 15, 3) := by decide +kernel
theorem dX2_signAt_9 : decode cX2_signAt 9 = .ok (.if_icmp .ge 21, 3) := by decide +kernel
theorem dX2_signAt_12 : decode cX2_signAt 12 = .ok (.iload_n 1, 1) := by decide +kernel
theorem dX2_signAt_13 : decode cX2_signAt 13 = .ok (.aload_n 0, 1) := by decide +kernel
theorem dX2_signAt_14 : decode cX2_signAt 14 = .ok (.getfield 9, 3) := by decide +kernel
theorem dX2_signAt_17 : decode cX2_signAt 17 = .ok (.arraylength, 1) := by decide +kernel
theorem dX2_signAt_18 : decode cX2_signAt 18 = .ok (.if_icmp .ge 12, 3) := by decide +kernel
theorem dX2_signAt_21 : decode cX2_signAt 21 = .ok (.aload_n 0, 1) := by decide +kernel
theorem dX2_signAt_22 : decode cX2_signAt 22 = .ok (.getfield 9, 3) := by decide +kernel
theorem dX2_signAt_25 : decode cX2_signAt 25 = .ok (.iload_n 1, 1) := by decide +kernel
theorem dX2_signAt_26 : decode cX2_signAt 26 = .ok (.caload, 1) := by decide +kernel
theorem dX2_signAt_27 : decode cX2_signAt 27 = .ok (.goto 5, 3) := by decide +kernel
theorem dX2_signAt_30 : decode cX2_signAt 30 = .ok (.bipush 32, 2) := by decide +kernel
theorem dX2_signAt_32 : decode cX2_signAt 32 = .ok (.ireturn, 1) := by decide +kernel
set_option maxRecDepth 20000 in
theorem ggX2_stepAt_X2_signAt : GoodIn wsX2_stepAt wsX2_signAt := goodIn_r _ [5, 6, 7, 97, 98] (by decide +kernel) (by decide +kernel)
set_option maxRecDepth 20000 in
theorem gX2_stepAt_X2_signAt : GoodIn wsX2_stepAt (wsV RX2 21 RX2 yX2_signAt wsX2_signAt) := goodIn_app (goodIn_of _ (by decide +kernel)) ggX2_stepAt_X2_signAt
set_option maxRecDepth 20000 in
theorem ggX2_stepAt_J0_indexOf_0f7a4 : GoodIn wsX2_stepAt wsJ0_indexOf_0f7a4 := goodIn_r _ [12, 13, 14, 15, 11, 16, 17, 18, 19, 20, 21, 22, 23, 24, 25, 26, 27, 28, 29, 30, 31, 32, 33, 34, 35, 36, 37, 38, 39, 40, 41, 42, 43, 44, 45, 46, 47, 48, 49, 50, 51, 52, 53, 54, 55, 56, 57, 58, 59, 60, 61, 62, 63, 64, 65, 66, 67, 68, 69, 70, 71, 72, 73, 74, 75, 76, 77, 78, 79, 80, 81, 82, 83, 84, 85, 86, 87, 88, 89, 90, 91, 92, 93, 94, 95, 96] (by decide +kernel) (by decide +kernel)
set_option maxRecDepth 20000 in
theorem gX2_stepAt_J0_indexOf_0f7a4 : GoodIn wsX2_stepAt (wsV RX2 25 RJ0 yJ0_indexOf_0f7a4 wsJ0_indexOf_0f7a4) := goodIn_app (goodIn_of _ (by decide +kernel)) ggX2_stepAt_J0_indexOf_0f7a4
theorem dX2_stepAt_0 : decode cX2_stepAt 0 = .ok (.ldc 19, 2) := by decide +kernel
theorem dX2_stepAt_2 : decode cX2_stepAt 2 = .ok (.aload_n 0, 1) := by decide +kernel
theorem dX2_stepAt_3 : decode cX2_stepAt 3 = .ok (.iload_n 1, 1) := by decide +kernel
theorem dX2_stepAt_4 : decode cX2_stepAt 4 = .ok (.invokevirtual 21, 3) := by decide +kernel
theorem dX2_stepAt_7 : decode cX2_stepAt 7 = .ok (.invokevirtual 25, 3) := by decide +kernel
theorem dX2_stepAt_10 : decode cX2_stepAt 10 = .ok (.ireturn, 1) := by decide +kernel
set_option maxRecDepth 20000 in
theorem ggX2_isAll_X2_signAt : GoodIn wsX2_isAll wsX2_signAt := goodIn_r _ [6, 1, 7, 8, 9] (by decide +kernel) (by decide +kernel)
set_option maxRecDepth 20000 in
theorem gX2_isAll_X2_signAt : GoodIn wsX2_isAll (wsV RX2 21 RX2 yX2_signAt wsX2_signAt) := goodIn_app (goodIn_of _ (by decide +kernel)) ggX2_isAll_X2_signAt
theorem dX2_isAll_0 : decode cX2_isAll 0 = .ok (.iconst 0, 1) := by decide +kernel
theorem dX2_isAll_1 : decode cX2_isAll 1 = .ok (.istore_n 2, 1) := by decide +kernel
theorem dX2_isAll_2 : decode cX2_isAll 2 = .ok (.iload_n 2, 1) := by decide +kernel
theorem dX2_isAll_3 : decode cX2_isAll 3 = .ok (.aload_n 0, 1) := by decide +kernel
theorem dX2_isAll_4 : decode cX2_isAll 4 = .ok (.getfield 15, 3) := by decide +kernel
theorem dX2_isAll_7 : decode cX2_isAll 7 = .ok (.if_icmp .ge 20, 3) := by decide +kernel
theorem dX2_isAll_10 : decode cX2_isAll 10 = .ok (.aload_n 0, 1) := by decide +kernel
theorem dX2_isAll_11 : decode cX2_isAll 11 = .ok (.iload_n 2, 1) := by decide +kernel
theorem dX2_isAll_12 : decode cX2_isAll 12 = .ok (.invokevirtual 21, 3) := by decide +kernel
theorem dX2_isAll_15 : decode cX2_isAll 15 = .ok (.iload_n 1, 1) := by decide +kernel
theorem dX2_isAll_16 : decode cX2_isAll 16 = .ok (.if_icmp .eq 5, 3) := by decide +kernel
theorem dX2_isAll_19 : decode cX2_isAll 19 = .ok (.iconst 0, 1) := by decide +kernel
theorem dX2_isAll_20 : decode cX2_isAll 20 = .ok (.ireturn, 1) := by decide +kernel
theorem dX2_isAll_21 : decode cX2_isAll 21 = .ok (.iinc 2 1, 3) := by decide +kernel
theorem dX2_isAll_24 : decode cX2_isAll 24 = .ok (.goto (-22), 3) := by decide +kernel
theorem dX2_isAll_27 : decode cX2_isAll 27 = .ok (.iconst 1, 1) := by decide +kernel
theorem dX2_isAll_28 : decode cX2_isAll 28 = .ok (.ireturn, 1) := by decide +kernel
set_option maxRecDepth 20000 in
theorem ggX2_houseFault_X2_firstWrong : GoodIn wsX2_houseFault wsX2_firstWrong := goodIn_r _ [6, 1, 7, 8, 9, 5, 10, 11, 12, 13, 14, 15, 16, 17, 18, 19, 20, 21, 22, 23, 24, 25, 26, 27, 28, 29, 30, 31, 32, 33, 34, 35, 36, 37, 38, 39, 40, 41, 42, 43, 44, 45, 46, 47, 48, 49, 50, 51, 52, 53, 54, 55, 56, 57, 58, 59, 60, 61, 62, 63, 64, 65, 66, 67, 68, 69, 70, 71, 72, 73, 74, 75, 76, 77, 78, 79, 80, 81, 82, 83, 84, 85, 86, 87, 88, 89, 90, 91, 92, 93, 94, 95, 96, 97, 98, 99, 100, 101, 102] (by decide +kernel) (by decide +kernel)
set_option maxRecDepth 20000 in
theorem gX2_houseFault_X2_firstWrong : GoodIn wsX2_houseFault (wsV RX2 33 RX2 yX2_firstWrong wsX2_firstWrong) := goodIn_app (goodIn_of _ (by decide +kernel)) ggX2_houseFault_X2_firstWrong
theorem dX2_houseFault_0 : decode cX2_houseFault 0 = .ok (.aload_n 0, 1) := by decide +kernel
theorem dX2_houseFault_1 : decode cX2_houseFault 1 = .ok (.ldc 31, 2) := by decide +kernel
theorem dX2_houseFault_3 : decode cX2_houseFault 3 = .ok (.iload_n 1, 1) := by decide +kernel
theorem dX2_houseFault_4 : decode cX2_houseFault 4 = .ok (.invokevirtual 33, 3) := by decide +kernel
theorem dX2_houseFault_7 : decode cX2_houseFault 7 = .ok (.istore_n 2, 1) := by decide +kernel
theorem dX2_houseFault_8 : decode cX2_houseFault 8 = .ok (.iload_n 2, 1) := by decide +kernel
theorem dX2_houseFault_9 : decode cX2_houseFault 9 = .ok (.bipush (-6), 2) := by decide +kernel
theorem dX2_houseFault_11 : decode cX2_houseFault 11 = .ok (.if_icmp .eq 5, 3) := by decide +kernel
theorem dX2_houseFault_14 : decode cX2_houseFault 14 = .ok (.iload_n 2, 1) := by decide +kernel
theorem dX2_houseFault_15 : decode cX2_houseFault 15 = .ok (.ireturn, 1) := by decide +kernel
theorem dX2_houseFault_16 : decode cX2_houseFault 16 = .ok (.aload_n 0, 1) := by decide +kernel
theorem dX2_houseFault_17 : decode cX2_houseFault 17 = .ok (.getfield 15, 3) := by decide +kernel
theorem dX2_houseFault_20 : decode cX2_houseFault 20 = .ok (.iload_n 1, 1) := by decide +kernel
theorem dX2_houseFault_21 : decode cX2_houseFault 21 = .ok (.if_icmp .ge 10, 3) := by decide +kernel
theorem dX2_houseFault_24 : decode cX2_houseFault 24 = .ok (.aload_n 0, 1) := by decide +kernel
theorem dX2_houseFault_25 : decode cX2_houseFault 25 = .ok (.getfield 15, 3) := by decide +kernel
theorem dX2_houseFault_28 : decode cX2_houseFault 28 = .ok (.goto 5, 3) := by decide +kernel
theorem dX2_houseFault_31 : decode cX2_houseFault 31 = .ok (.bipush (-6), 2) := by decide +kernel
theorem dX2_houseFault_33 : decode cX2_houseFault 33 = .ok (.ireturn, 1) := by decide +kernel
set_option maxRecDepth 20000 in
theorem ggX2_walkFault_X2_firstWrong : GoodIn wsX2_walkFault wsX2_firstWrong := goodIn_r _ [5, 6, 7, 8, 9, 4, 10, 11, 12, 13, 14, 15, 16, 17, 18, 19, 20, 21, 22, 23, 24, 25, 26, 27, 28, 29, 30, 31, 32, 33, 34, 35, 36, 37, 38, 39, 40, 41, 42, 43, 44, 45, 46, 47, 48, 49, 50, 51, 52, 53, 54, 55, 56, 57, 58, 59, 60, 61, 62, 63, 64, 65, 66, 67, 68, 69, 70, 71, 72, 73, 74, 75, 76, 77, 78, 79, 80, 81, 82, 83, 84, 85, 86, 87, 88, 89, 90, 91, 92, 93, 94, 95, 96, 97, 98, 99, 100, 101, 102] (by decide +kernel) (by decide +kernel)
set_option maxRecDepth 20000 in
theorem gX2_walkFault_X2_firstWrong : GoodIn wsX2_walkFault (wsV RX2 33 RX2 yX2_firstWrong wsX2_firstWrong) := goodIn_app (goodIn_of _ (by decide +kernel)) ggX2_walkFault_X2_firstWrong
theorem dX2_walkFault_0 : decode cX2_walkFault 0 = .ok (.aload_n 0, 1) := by decide +kernel
theorem dX2_walkFault_1 : decode cX2_walkFault 1 = .ok (.ldc 19, 2) := by decide +kernel
theorem dX2_walkFault_3 : decode cX2_walkFault 3 = .ok (.bipush 40, 2) := by decide +kernel
theorem dX2_walkFault_5 : decode cX2_walkFault 5 = .ok (.invokevirtual 33, 3) := by decide +kernel
theorem dX2_walkFault_8 : decode cX2_walkFault 8 = .ok (.ireturn, 1) := by decide +kernel
set_option maxRecDepth 20000 in
theorem ggX2_firstWrong_X2_signAt : GoodIn wsX2_firstWrong wsX2_signAt := goodIn_r _ [6, 1, 7, 97, 98] (by decide +kernel) (by decide +kernel)
set_option maxRecDepth 20000 in
theorem gX2_firstWrong_X2_signAt : GoodIn wsX2_firstWrong (wsV RX2 21 RX2 yX2_signAt wsX2_signAt) := goodIn_app (goodIn_of _ (by decide +kernel)) ggX2_firstWrong_X2_signAt
set_option maxRecDepth 20000 in
theorem ggX2_firstWrong_J0_indexOf_0f7a4 : GoodIn wsX2_firstWrong wsJ0_indexOf_0f7a4 := goodIn_r _ [12, 13, 14, 15, 11, 16, 17, 18, 19, 20, 21, 22, 23, 24, 25, 26, 27, 28, 29, 30, 31, 32, 33, 34, 35, 36, 37, 38, 39, 40, 41, 42, 43, 44, 45, 46, 47, 48, 49, 50, 51, 52, 53, 54, 55, 56, 57, 58, 59, 60, 61, 62, 63, 64, 65, 66, 67, 68, 69, 70, 71, 72, 73, 74, 75, 76, 77, 78, 79, 80, 81, 82, 83, 84, 85, 86, 87, 88, 89, 90, 91, 92, 93, 94, 95, 96] (by decide +kernel) (by decide +kernel)
set_option maxRecDepth 20000 in
theorem gX2_firstWrong_J0_indexOf_0f7a4 : GoodIn wsX2_firstWrong (wsV RX2 25 RJ0 yJ0_indexOf_0f7a4 wsJ0_indexOf_0f7a4) := goodIn_app (goodIn_of _ (by decide +kernel)) ggX2_firstWrong_J0_indexOf_0f7a4
theorem dX2_firstWrong_0 : decode cX2_firstWrong 0 = .ok (.iconst 0, 1) := by decide +kernel
theorem dX2_firstWrong_1 : decode cX2_firstWrong 1 = .ok (.istore_n 3, 1) := by decide +kernel
theorem dX2_firstWrong_2 : decode cX2_firstWrong 2 = .ok (.iload_n 3, 1) := by decide +kernel
theorem dX2_firstWrong_3 : decode cX2_firstWrong 3 = .ok (.aload_n 0, 1) := by decide +kernel
theorem dX2_firstWrong_4 : decode cX2_firstWrong 4 = .ok (.getfield 15, 3) := by decide +kernel
theorem dX2_firstWrong_7 : decode cX2_firstWrong 7 = .ok (.if_icmp .ge 28, 3) := by decide +kernel
theorem dX2_firstWrong_10 : decode cX2_firstWrong 10 = .ok (.iload_n 3, 1) := by decide +kernel
theorem dX2_firstWrong_11 : decode cX2_firstWrong 11 = .ok (.iload_n 2, 1) := by decide +kernel
theorem dX2_firstWrong_12 : decode cX2_firstWrong 12 = .ok (.if_icmp .ge 15, 3) := by decide +kernel
theorem dX2_firstWrong_15 : decode cX2_firstWrong 15 = .ok (.aload_n 1, 1) := by decide +kernel
theorem dX2_firstWrong_16 : decode cX2_firstWrong 16 = .ok (.aload_n 0, 1) := by decide +kernel
theorem dX2_firstWrong_17 : decode cX2_firstWrong 17 = .ok (.iload_n 3, 1) := by decide +kernel
theorem dX2_firstWrong_18 : decode cX2_firstWrong 18 = .ok (.invokevirtual 21, 3) := by decide +kernel
theorem dX2_firstWrong_21 : decode cX2_firstWrong 21 = .ok (.invokevirtual 25, 3) := by decide +kernel
theorem dX2_firstWrong_24 : decode cX2_firstWrong 24 = .ok (.ifCond .ge 5, 3) := by decide +kernel
theorem dX2_firstWrong_27 : decode cX2_firstWrong 27 = .ok (.iload_n 3, 1) := by decide +kernel
theorem dX2_firstWrong_28 : decode cX2_firstWrong 28 = .ok (.ireturn, 1) := by decide +kernel
theorem dX2_firstWrong_29 : decode cX2_firstWrong 29 = .ok (.iinc 3 1, 3) := by decide +kernel
theorem dX2_firstWrong_32 : decode cX2_firstWrong 32 = .ok (.goto (-30), 3) := by decide +kernel
theorem dX2_firstWrong_35 : decode cX2_firstWrong 35 = .ok (.bipush (-6), 2) := by decide +kernel
theorem dX2_firstWrong_37 : decode cX2_firstWrong 37 = .ok (.ireturn, 1) := by decide +kernel
theorem dX3_init_0 : decode cX3_init 0 = .ok (.aload_n 0, 1) := by decide +kernel
theorem dX3_init_1 : decode cX3_init 1 = .ok (.invokespecial 3, 3) := by decide +kernel
theorem dX3_init_4 : decode cX3_init 4 = .ok (.return_, 1) := by decide +kernel
set_option maxRecDepth 20000 in
theorem ggX3_follow_X3_forget : GoodIn wsX3_follow wsX3_forget := goodIn_r _ [9, 2, 10, 11, 12, 13, 14, 4, 220, 221, 222, 223, 224, 225, 226] (by decide +kernel) (by decide +kernel)
set_option maxRecDepth 20000 in
theorem gX3_follow_X3_forget : GoodIn wsX3_follow (wsV RX3 9 RX3 yX3_forget wsX3_forget) := goodIn_app (goodIn_of _ (by decide +kernel)) ggX3_follow_X3_forget
set_option maxRecDepth 20000 in
theorem ggX3_follow_X6_begin : GoodIn wsX3_follow wsX6_begin := goodIn_r _ [19, 20, 21, 22, 23, 24, 25, 26, 27, 28, 29, 30, 31, 32, 33, 34, 35, 36, 37, 38, 39, 40, 41, 42, 43, 44, 45, 46, 47, 48, 49, 50, 51, 52, 53, 54, 55, 56, 57, 58, 59, 60, 61, 62, 63, 64, 65, 66, 67, 68, 69, 70, 71, 72, 73, 74, 75, 76, 77, 78, 79, 80, 233, 234, 235, 236, 237, 238, 239, 240, 241, 242, 243, 244, 245, 227, 228, 229, 230, 231, 232, 246, 247, 248, 249] (by decide +kernel) (by decide +kernel)
set_option maxRecDepth 20000 in
theorem gX3_follow_X6_begin : GoodIn wsX3_follow (wsV RX3 14 RX6 yX6_begin wsX6_begin) := goodIn_app (goodIn_of _ (by decide +kernel)) ggX3_follow_X6_begin
set_option maxRecDepth 20000 in
theorem ggX3_follow_X2_stepAt : GoodIn wsX3_follow wsX2_stepAt := goodIn_r _ [85, 86, 87, 88, 84, 89, 90, 91, 92, 93, 94, 95, 96, 97, 98, 99, 100, 101, 102, 103, 104, 105, 106, 107, 108, 109, 110, 111, 112, 113, 114, 115, 116, 117, 118, 119, 120, 121, 122, 123, 124, 125, 126, 127, 128, 129, 130, 131, 132, 133, 134, 135, 136, 137, 138, 139, 140, 141, 142, 143, 144, 145, 146, 147, 148, 149, 150, 151, 152, 153, 154, 155, 156, 157, 158, 159, 160, 161, 162, 163, 164, 165, 166, 167, 168, 169, 170, 171, 172, 173, 174, 175, 176, 177, 178, 179, 180, 218, 219] (by decide +kernel) (by decide +kernel)
set_option maxRecDepth 20000 in
theorem gX3_follow_X2_stepAt : GoodIn wsX3_follow (wsV RX3 26 RX2 yX2_stepAt wsX2_stepAt) := goodIn_app (goodIn_of _ (by decide +kernel)) ggX3_follow_X2_stepAt
set_option maxRecDepth 20000 in
theorem ggX3_follow_X6_take : GoodIn wsX3_follow wsX6_take := goodIn_r _ [184, 21, 23, 22, 185, 186, 187, 44, 188, 58, 59, 60, 61, 62, 63, 64, 65, 189, 190, 191, 192, 57, 227, 228, 229, 230, 231, 232, 233, 234, 235, 236, 237, 238, 239, 240, 241, 242, 243, 244, 245] (by decide +kernel) (by decide +kernel)
set_option maxRecDepth 20000 in
theorem gX3_follow_X6_take : GoodIn wsX3_follow (wsV RX3 30 RX6 yX6_take wsX6_take) := goodIn_app (goodIn_of _ (by decide +kernel)) ggX3_follow_X6_take
set_option maxRecDepth 20000 in
theorem ggX3_follow_X3_note : GoodIn wsX3_follow wsX3_note := goodIn_r _ [196, 10, 11, 12, 13, 14, 197, 198, 199, 18, 200, 24, 25, 201, 202, 203, 204, 23, 21, 205, 26, 206, 27, 22, 207, 29, 39, 31, 40, 208, 220, 221, 222, 223, 224, 225, 226, 233, 234, 235, 236, 237, 238, 239, 240, 241, 242, 243, 244, 245, 246, 247, 248, 249, 227, 228, 229, 230, 231, 232] (by decide +kernel) (by decide +kernel)
set_option maxRecDepth 20000 in
theorem gX3_follow_X3_note : GoodIn wsX3_follow (wsV RX3 37 RX3 yX3_note wsX3_note) := goodIn_app (goodIn_of _ (by decide +kernel)) ggX3_follow_X3_note
set_option maxRecDepth 20000 in
theorem ggX3_follow_X8_cellOf : GoodIn wsX3_follow wsX8_cellOf := goodIn_r _ [210, 211, 212, 213, 214, 215, 216, 217] (by decide +kernel) (by decide +kernel)
set_option maxRecDepth 20000 in
theorem gX3_follow_X8_cellOf_n44 : GoodIn wsX3_follow (wsX8_cellOf) := ggX3_follow_X8_cellOf
theorem dX3_follow_0 : decode cX3_follow 0 = .ok (.aload_n 0, 1) := by decide +kernel
theorem dX3_follow_1 : decode cX3_follow 1 = .ok (.invokevirtual 9, 3) := by decide +kernel
theorem dX3_follow_4 : decode cX3_follow 4 = .ok (.aload_n 3, 1) := by decide +kernel
theorem dX3_follow_5 : decode cX3_follow 5 = .ok (.aload_n 1, 1) := by decide +kernel
theorem dX3_follow_6 : decode cX3_follow 6 = .ok (.invokevirtual 14, 3) := by decide +kernel
theorem dX3_follow_9 : decode cX3_follow 9 = .ok (.iconst 0, 1) := by decide +kernel
theorem dX3_follow_10 : decode cX3_follow 10 = .ok (.istore 4, 2) := by decide +kernel
theorem dX3_follow_12 : decode cX3_follow 12 = .ok (.iload 4, 2) := by decide +kernel
theorem dX3_follow_14 : decode cX3_follow 14 = .ok (.aload_n 2, 1) := by decide +kernel
theorem dX3_follow_15 : decode cX3_follow 15 = .ok (.getfield 20, 3) := by decide +kernel
theorem dX3_follow_18 : decode cX3_follow 18 = .ok (.if_icmp .ge 38, 3) := by decide +kernel
theorem dX3_follow_21 : decode cX3_follow 21 = .ok (.aload_n 3, 1) := by decide +kernel
theorem dX3_follow_22 : decode cX3_follow 22 = .ok (.aload_n 1, 1) := by decide +kernel
theorem dX3_follow_23 : decode cX3_follow 23 = .ok (.aload_n 2, 1) := by decide +kernel
theorem dX3_follow_24 : decode cX3_follow 24 = .ok (.iload 4, 2) := by decide +kernel
theorem dX3_follow_26 : decode cX3_follow 26 = .ok (.invokevirtual 26, 3) := by decide +kernel
theorem dX3_follow_29 : decode cX3_follow 29 = .ok (.invokevirtual 30, 3) := by decide +kernel
theorem dX3_follow_32 : decode cX3_follow 32 = .ok (.ifCond .ne 10, 3) := by decide +kernel
theorem dX3_follow_35 : decode cX3_follow 35 = .ok (.aload_n 0, 1) := by decide +kernel
theorem dX3_follow_36 : decode cX3_follow 36 = .ok (.iload 4, 2) := by decide +kernel
theorem dX3_follow_38 : decode cX3_follow 38 = .ok (.putfield 34, 3) := by decide +kernel
theorem dX3_follow_41 : decode cX3_follow 41 = .ok (.return_, 1) := by decide +kernel
theorem dX3_follow_42 : decode cX3_follow 42 = .ok (.aload_n 0, 1) := by decide +kernel
theorem dX3_follow_43 : decode cX3_follow 43 = .ok (.aload_n 1, 1) := by decide +kernel
theorem dX3_follow_44 : decode cX3_follow 44 = .ok (.aload_n 3, 1) := by decide +kernel
theorem dX3_follow_45 : decode cX3_follow 45 = .ok (.iload 4, 2) := by decide +kernel
theorem dX3_follow_47 : decode cX3_follow 47 = .ok (.invokevirtual 37, 3) := by decide +kernel
theorem dX3_follow_50 : decode cX3_follow 50 = .ok (.iinc 4 1, 3) := by decide +kernel
theorem dX3_follow_53 : decode cX3_follow 53 = .ok (.goto (-41), 3) := by decide +kernel
theorem dX3_follow_56 : decode cX3_follow 56 = .ok (.aload_n 0, 1) := by decide +kernel
theorem dX3_follow_57 : decode cX3_follow 57 = .ok (.aload_n 3, 1) := by decide +kernel
theorem dX3_follow_58 : decode cX3_follow 58 = .ok (.getfield 41, 3) := by decide +kernel
theorem dX3_follow_61 : decode cX3_follow 61 = .ok (.invokestatic 44, 3) := by decide +kernel
theorem dX3_follow_64 : decode cX3_follow 64 = .ok (.putfield 47, 3) := by decide +kernel
theorem dX3_follow_67 : decode cX3_follow 67 = .ok (.return_, 1) := by decide +kernel
theorem dX3_forget_0 : decode cX3_forget 0 = .ok (.aload_n 0, 1) := by decide +kernel
theorem dX3_forget_1 : decode cX3_forget 1 = .ok (.bipush (-6), 2) := by decide +kernel
theorem dX3_forget_3 : decode cX3_forget 3 = .ok (.putfield 34, 3) := by decide +kernel
theorem dX3_forget_6 : decode cX3_forget 6 = .ok (.aload_n 0, 1) := by decide +kernel
theorem dX3_forget_7 : decode cX3_forget 7 = .ok (.bipush (-6), 2) := by decide +kernel
theorem dX3_forget_9 : decode cX3_forget 9 = .ok (.putfield 50, 3) := by decide +kernel
theorem dX3_forget_12 : decode cX3_forget 12 = .ok (.aload_n 0, 1) := by decide +kernel
theorem dX3_forget_13 : decode cX3_forget 13 = .ok (.bipush (-6), 2) := by decide +kernel
theorem dX3_forget_15 : decode cX3_forget 15 = .ok (.putfield 53, 3) := by decide +kernel
theorem dX3_forget_18 : decode cX3_forget 18 = .ok (.aload_n 0, 1) := by decide +kernel
theorem dX3_forget_19 : decode cX3_forget 19 = .ok (.bipush (-6), 2) := by decide +kernel
theorem dX3_forget_21 : decode cX3_forget 21 = .ok (.putfield 56, 3) := by decide +kernel
theorem dX3_forget_24 : decode cX3_forget 24 = .ok (.aload_n 0, 1) := by decide +kernel
theorem dX3_forget_25 : decode cX3_forget 25 = .ok (.iconst 0, 1) := by decide +kernel
theorem dX3_forget_26 : decode cX3_forget 26 = .ok (.putfield 59, 3) := by decide +kernel
theorem dX3_forget_29 : decode cX3_forget 29 = .ok (.aload_n 0, 1) := by decide +kernel
theorem dX3_forget_30 : decode cX3_forget 30 = .ok (.iconst 0, 1) := by decide +kernel
theorem dX3_forget_31 : decode cX3_forget 31 = .ok (.putfield 62, 3) := by decide +kernel
theorem dX3_forget_34 : decode cX3_forget 34 = .ok (.aload_n 0, 1) := by decide +kernel
theorem dX3_forget_35 : decode cX3_forget 35 = .ok (.bipush (-6), 2) := by decide +kernel
theorem dX3_forget_37 : decode cX3_forget 37 = .ok (.putfield 47, 3) := by decide +kernel
theorem dX3_forget_40 : decode cX3_forget 40 = .ok (.return_, 1) := by decide +kernel
set_option maxRecDepth 20000 in
theorem ggX3_note_X6_firstShownTo : GoodIn wsX3_note wsX6_firstShownTo := goodIn_r _ [10, 11, 12, 13, 14, 15, 9, 16, 17, 18, 19, 20, 21, 22, 23, 24, 25, 26, 27, 28, 37, 38, 39, 40, 41, 42, 43, 44, 45, 46, 47, 48, 49, 50, 51, 52, 53, 54, 55, 56, 57, 58, 59] (by decide +kernel) (by decide +kernel)
set_option maxRecDepth 20000 in
theorem gX3_note_X6_firstShownTo : GoodIn wsX3_note (wsV RX3 65 RX6 yX6_firstShownTo wsX6_firstShownTo) := goodIn_app (goodIn_of _ (by decide +kernel)) ggX3_note_X6_firstShownTo
set_option maxRecDepth 20000 in
theorem ggX3_note_X6_reasonTo : GoodIn wsX3_note wsX6_reasonTo := goodIn_r _ [16, 17, 18, 19, 20, 21, 22, 23, 24, 25, 26, 27, 28, 54, 55, 56, 57, 58, 59, 37, 38, 39, 40, 41, 42, 43, 44, 45, 46, 47, 48, 49] (by decide +kernel) (by decide +kernel)
set_option maxRecDepth 20000 in
theorem gX3_note_X6_reasonTo : GoodIn wsX3_note (wsV RX3 69 RX6 yX6_reasonTo wsX6_reasonTo) := goodIn_app (goodIn_of _ (by decide +kernel)) ggX3_note_X6_reasonTo
theorem dX3_note_0 : decode cX3_note 0 = .ok (.aload_n 2, 1) := by decide +kernel
theorem dX3_note_1 : decode cX3_note 1 = .ok (.aload_n 1, 1) := by decide +kernel
theorem dX3_note_2 : decode cX3_note 2 = .ok (.iconst 0, 1) := by decide +kernel
theorem dX3_note_3 : decode cX3_note 3 = .ok (.invokevirtual 65, 3) := by decide +kernel
theorem dX3_note_6 : decode cX3_note 6 = .ok (.istore 4, 2) := by decide +kernel
theorem dX3_note_8 : decode cX3_note 8 = .ok (.iload 4, 2) := by decide +kernel
theorem dX3_note_10 : decode cX3_note 10 = .ok (.bipush (-6), 2) := by decide +kernel
theorem dX3_note_12 : decode cX3_note 12 = .ok (.if_icmp .ne 4, 3) := by decide +kernel
theorem dX3_note_15 : decode cX3_note 15 = .ok (.return_, 1) := by decide +kernel
theorem dX3_note_16 : decode cX3_note 16 = .ok (.aload_n 0, 1) := by decide +kernel
theorem dX3_note_17 : decode cX3_note 17 = .ok (.getfield 50, 3) := by decide +kernel
theorem dX3_note_20 : decode cX3_note 20 = .ok (.bipush (-6), 2) := by decide +kernel
theorem dX3_note_22 : decode cX3_note 22 = .ok (.if_icmp .ne 26, 3) := by decide +kernel
theorem dX3_note_25 : decode cX3_note 25 = .ok (.aload_n 0, 1) := by decide +kernel
theorem dX3_note_26 : decode cX3_note 26 = .ok (.iload_n 3, 1) := by decide +kernel
theorem dX3_note_27 : decode cX3_note 27 = .ok (.putfield 50, 3) := by decide +kernel
theorem dX3_note_30 : decode cX3_note 30 = .ok (.aload_n 0, 1) := by decide +kernel
theorem dX3_note_31 : decode cX3_note 31 = .ok (.iload 4, 2) := by decide +kernel
theorem dX3_note_33 : decode cX3_note 33 = .ok (.putfield 53, 3) := by decide +kernel
theorem dX3_note_36 : decode cX3_note 36 = .ok (.aload_n 0, 1) := by decide +kernel
theorem dX3_note_37 : decode cX3_note 37 = .ok (.aload_n 2, 1) := by decide +kernel
theorem dX3_note_38 : decode cX3_note 38 = .ok (.aload_n 1, 1) := by decide +kernel
theorem dX3_note_39 : decode cX3_note 39 = .ok (.iload 4, 2) := by decide +kernel
theorem dX3_note_41 : decode cX3_note 41 = .ok (.iconst 0, 1) := by decide +kernel
theorem dX3_note_42 : decode cX3_note 42 = .ok (.invokevirtual 69, 3) := by decide +kernel
theorem dX3_note_45 : decode cX3_note 45 = .ok (.putfield 56, 3) := by decide +kernel
theorem dX3_note_48 : decode cX3_note 48 = .ok (.aload_n 0, 1) := by decide +kernel
theorem dX3_note_49 : decode cX3_note 49 = .ok (.dup, 1) := by decide +kernel
theorem dX3_note_50 : decode cX3_note 50 = .ok (.getfield 59, 3) := by decide +kernel
theorem dX3_note_53 : decode cX3_note 53 = .ok (.iconst 1, 1) := by decide +kernel
theorem dX3_note_54 : decode cX3_note 54 = .ok (.iadd, 1) := by decide +kernel
theorem dX3_note_55 : decode cX3_note 55 = .ok (.putfield 59, 3) := by decide +kernel
theorem dX3_note_58 : decode cX3_note 58 = .ok (.aload_n 2, 1) := by decide +kernel
theorem dX3_note_59 : decode cX3_note 59 = .ok (.aload_n 1, 1) := by decide +kernel
theorem dX3_note_60 : decode cX3_note 60 = .ok (.iconst 1, 1) := by decide +kernel
theorem dX3_note_61 : decode cX3_note 61 = .ok (.invokevirtual 65, 3) := by decide +kernel
theorem dX3_note_64 : decode cX3_note 64 = .ok (.bipush (-6), 2) := by decide +kernel
theorem dX3_note_66 : decode cX3_note 66 = .ok (.if_icmp .ne 13, 3) := by decide +kernel
theorem dX3_note_69 : decode cX3_note 69 = .ok (.aload_n 0, 1) := by decide +kernel
theorem dX3_note_70 : decode cX3_note 70 = .ok (.dup, 1) := by decide +kernel
theorem dX3_note_71 : decode cX3_note 71 = .ok (.getfield 62, 3) := by decide +kernel
theorem dX3_note_74 : decode cX3_note 74 = .ok (.iconst 1, 1) := by decide +kernel
theorem dX3_note_75 : decode cX3_note 75 = .ok (.iadd, 1) := by decide +kernel
theorem dX3_note_76 : decode cX3_note 76 = .ok (.putfield 62, 3) := by decide +kernel
theorem dX3_note_79 : decode cX3_note 79 = .ok (.return_, 1) := by decide +kernel
theorem dX3_answer_0 : decode cX3_answer 0 = .ok (.iload_n 1, 1) := by decide +kernel
theorem dX3_answer_1 : decode cX3_answer 1 = .ok (.tableswitch 51 1 4 #[31, 36, 41, 46], 31) := by decide +kernel
theorem dX3_answer_32 : decode cX3_answer 32 = .ok (.aload_n 0, 1) := by decide +kernel
theorem dX3_answer_33 : decode cX3_answer 33 = .ok (.getfield 50, 3) := by decide +kernel
theorem dX3_answer_36 : decode cX3_answer 36 = .ok (.ireturn, 1) := by decide +kernel
theorem dX3_answer_37 : decode cX3_answer 37 = .ok (.aload_n 0, 1) := by decide +kernel
theorem dX3_answer_38 : decode cX3_answer 38 = .ok (.getfield 53, 3) := by decide +kernel
theorem dX3_answer_41 : decode cX3_answer 41 = .ok (.ireturn, 1) := by decide +kernel
theorem dX3_answer_42 : decode cX3_answer 42 = .ok (.aload_n 0, 1) := by decide +kernel
theorem dX3_answer_43 : decode cX3_answer 43 = .ok (.getfield 56, 3) := by decide +kernel
theorem dX3_answer_46 : decode cX3_answer 46 = .ok (.ireturn, 1) := by decide +kernel
theorem dX3_answer_47 : decode cX3_answer 47 = .ok (.aload_n 0, 1) := by decide +kernel
theorem dX3_answer_48 : decode cX3_answer 48 = .ok (.getfield 59, 3) := by decide +kernel
theorem dX3_answer_51 : decode cX3_answer 51 = .ok (.ireturn, 1) := by decide +kernel
theorem dX3_answer_52 : decode cX3_answer 52 = .ok (.aload_n 0, 1) := by decide +kernel
theorem dX3_answer_53 : decode cX3_answer 53 = .ok (.getfield 47, 3) := by decide +kernel
theorem dX3_answer_56 : decode cX3_answer 56 = .ok (.ireturn, 1) := by decide +kernel
theorem dX4_init_0 : decode cX4_init 0 = .ok (.aload_n 0, 1) := by decide +kernel
theorem dX4_init_1 : decode cX4_init 1 = .ok (.invokespecial 3, 3) := by decide +kernel
theorem dX4_init_4 : decode cX4_init 4 = .ok (.aload_n 0, 1) := by decide +kernel
theorem dX4_init_5 : decode cX4_init 5 = .ok (.iconst 4, 1) := by decide +kernel
theorem dX4_init_6 : decode cX4_init 6 = .ok (.newarray .int, 2) := by decide +kernel
theorem dX4_init_8 : decode cX4_init 8 = .ok (.putfield 9, 3) := by decide +kernel
theorem dX4_init_11 : decode cX4_init 11 = .ok (.aload_n 0, 1) := by decide +kernel
theorem dX4_init_12 : decode cX4_init 12 = .ok (.iconst 4, 1) := by decide +kernel
theorem dX4_init_13 : decode cX4_init 13 = .ok (.newarray .int, 2) := by decide +kernel
theorem dX4_init_15 : decode cX4_init 15 = .ok (.putfield 15, 3) := by decide +kernel
theorem dX4_init_18 : decode cX4_init 18 = .ok (.aload_n 0, 1) := by decide +kernel
theorem dX4_init_19 : decode cX4_init 19 = .ok (.iconst 4, 1) := by decide +kernel
theorem dX4_init_20 : decode cX4_init 20 = .ok (.newarray .int, 2) := by decide +kernel
theorem dX4_init_22 : decode cX4_init 22 = .ok (.putfield 18, 3) := by decide +kernel
theorem dX4_init_25 : decode cX4_init 25 = .ok (.return_, 1) := by decide +kernel
theorem dX4_isFull_0 : decode cX4_isFull 0 = .ok (.aload_n 0, 1) := by decide +kernel
theorem dX4_isFull_1 : decode cX4_isFull 1 = .ok (.getfield 21, 3) := by decide +kernel
theorem dX4_isFull_4 : decode cX4_isFull 4 = .ok (.iconst 4, 1) := by decide +kernel
theorem dX4_isFull_5 : decode cX4_isFull 5 = .ok (.if_icmp .lt 7, 3) := by decide +kernel
theorem dX4_isFull_8 : decode cX4_isFull 8 = .ok (.iconst 1, 1) := by decide +kernel
theorem dX4_isFull_9 : decode cX4_isFull 9 = .ok (.goto 4, 3) := by decide +kernel
theorem dX4_isFull_12 : decode cX4_isFull 12 = .ok (.iconst 0, 1) := by decide +kernel
theorem dX4_isFull_13 : decode cX4_isFull 13 = .ok (.ireturn, 1) := by decide +kernel
theorem dX4_isOne_0 : decode cX4_isOne 0 = .ok (.iload_n 1, 1) := by decide +kernel
theorem dX4_isOne_1 : decode cX4_isOne 1 = .ok (.ifCond .lt 15, 3) := by decide +kernel
theorem dX4_isOne_4 : decode cX4_isOne 4 = .ok (.iload_n 1, 1) := by decide +kernel
theorem dX4_isOne_5 : decode cX4_isOne 5 = .ok (.aload_n 0, 1) := by decide +kernel
theorem dX4_isOne_6 : decode cX4_isOne 6 = .ok (.getfield 21, 3) := by decide +kernel
theorem dX4_isOne_9 : decode cX4_isOne 9 = .ok (.if_icmp .ge 7, 3) := by decide +kernel
theorem dX4_isOne_12 : decode cX4_isOne 12 = .ok (.iconst 1, 1) := by decide +kernel
theorem dX4_isOne_13 : decode cX4_isOne 13 = .ok (.goto 4, 3) := by decide +kernel
theorem dX4_isOne_16 : decode cX4_isOne 16 = .ok (.iconst 0, 1) := by decide +kernel
theorem dX4_isOne_17 : decode cX4_isOne 17 = .ok (.ireturn, 1) := by decide +kernel
set_option maxRecDepth 20000 in
theorem ggX4_add_X4_isFull : GoodIn wsX4_add wsX4_isFull := goodIn_r _ [9, 2, 13, 14, 15, 16] (by decide +kernel) (by decide +kernel)
set_option maxRecDepth 20000 in
theorem gX4_add_X4_isFull : GoodIn wsX4_add (wsV RX4 25 RX4 yX4_isFull wsX4_isFull) := goodIn_app (goodIn_of _ (by decide +kernel)) ggX4_add_X4_isFull
set_option maxRecDepth 20000 in
theorem ggX4_add_X8_put : GoodIn wsX4_add wsX8_put := goodIn_r _ [12] (by decide +kernel) (by decide +kernel)
set_option maxRecDepth 20000 in
theorem gX4_add_X8_put_n29 : GoodIn wsX4_add (wsX8_put) := ggX4_add_X8_put
theorem dX4_add_0 : decode cX4_add 0 = .ok (.aload_n 0, 1) := by decide +kernel
theorem dX4_add_1 : decode cX4_add 1 = .ok (.invokevirtual 25, 3) := by decide +kernel
theorem dX4_add_4 : decode cX4_add 4 = .ok (.ifCond .eq 5, 3) := by decide +kernel
theorem dX4_add_7 : decode cX4_add 7 = .ok (.iconst 0, 1) := by decide +kernel
theorem dX4_add_8 : decode cX4_add 8 = .ok (.ireturn, 1) := by decide +kernel
theorem dX4_add_9 : decode cX4_add 9 = .ok (.aload_n 0, 1) := by decide +kernel
theorem dX4_add_10 : decode cX4_add 10 = .ok (.getfield 9, 3) := by decide +kernel
theorem dX4_add_13 : decode cX4_add 13 = .ok (.aload_n 0, 1) := by decide +kernel
theorem dX4_add_14 : decode cX4_add 14 = .ok (.getfield 21, 3) := by decide +kernel
theorem dX4_add_17 : decode cX4_add 17 = .ok (.iload_n 1, 1) := by decide +kernel
theorem dX4_add_18 : decode cX4_add 18 = .ok (.invokestatic 29, 3) := by decide +kernel
theorem dX4_add_21 : decode cX4_add 21 = .ok (.aload_n 0, 1) := by decide +kernel
theorem dX4_add_22 : decode cX4_add 22 = .ok (.getfield 15, 3) := by decide +kernel
theorem dX4_add_25 : decode cX4_add 25 = .ok (.aload_n 0, 1) := by decide +kernel
theorem dX4_add_26 : decode cX4_add 26 = .ok (.getfield 21, 3) := by decide +kernel
theorem dX4_add_29 : decode cX4_add 29 = .ok (.iload_n 2, 1) := by decide +kernel
theorem dX4_add_30 : decode cX4_add 30 = .ok (.invokestatic 29, 3) := by decide +kernel
theorem dX4_add_33 : decode cX4_add 33 = .ok (.aload_n 0, 1) := by decide +kernel
theorem dX4_add_34 : decode cX4_add 34 = .ok (.getfield 18, 3) := by decide +kernel
theorem dX4_add_37 : decode cX4_add 37 = .ok (.aload_n 0, 1) := by decide +kernel
theorem dX4_add_38 : decode cX4_add 38 = .ok (.getfield 21, 3) := by decide +kernel
theorem dX4_add_41 : decode cX4_add 41 = .ok (.iload_n 3, 1) := by decide +kernel
theorem dX4_add_42 : decode cX4_add 42 = .ok (.ifCond .eq 7, 3) := by decide +kernel
theorem dX4_add_45 : decode cX4_add 45 = .ok (.iconst 1, 1) := by decide +kernel
theorem dX4_add_46 : decode cX4_add 46 = .ok (.goto 4, 3) := by decide +kernel
theorem dX4_add_49 : decode cX4_add 49 = .ok (.iconst 0, 1) := by decide +kernel
theorem dX4_add_50 : decode cX4_add 50 = .ok (.invokestatic 29, 3) := by decide +kernel
theorem dX4_add_53 : decode cX4_add 53 = .ok (.aload_n 0, 1) := by decide +kernel
theorem dX4_add_54 : decode cX4_add 54 = .ok (.dup, 1) := by decide +kernel
theorem dX4_add_55 : decode cX4_add 55 = .ok (.getfield 21, 3) := by decide +kernel
theorem dX4_add_58 : decode cX4_add 58 = .ok (.iconst 1, 1) := by decide +kernel
theorem dX4_add_59 : decode cX4_add 59 = .ok (.iadd, 1) := by decide +kernel
theorem dX4_add_60 : decode cX4_add 60 = .ok (.putfield 21, 3) := by decide +kernel
theorem dX4_add_63 : decode cX4_add 63 = .ok (.iconst 1, 1) := by decide +kernel
theorem dX4_add_64 : decode cX4_add 64 = .ok (.ireturn, 1) := by decide +kernel
theorem dX4_clear_0 : decode cX4_clear 0 = .ok (.aload_n 0, 1) := by decide +kernel
theorem dX4_clear_1 : decode cX4_clear 1 = .ok (.getfield 21, 3) := by decide +kernel
theorem dX4_clear_4 : decode cX4_clear 4 = .ok (.istore_n 1, 1) := by decide +kernel
theorem dX4_clear_5 : decode cX4_clear 5 = .ok (.aload_n 0, 1) := by decide +kernel
theorem dX4_clear_6 : decode cX4_clear 6 = .ok (.iconst 0, 1) := by decide +kernel
theorem dX4_clear_7 : decode cX4_clear 7 = .ok (.putfield 21, 3) := by decide +kernel
theorem dX4_clear_10 : decode cX4_clear 10 = .ok (.iload_n 1, 1) := by decide +kernel
theorem dX4_clear_11 : decode cX4_clear 11 = .ok (.ireturn, 1) := by decide +kernel
set_option maxRecDepth 20000 in
theorem ggX4_cellOfOne_X8_at : GoodIn wsX4_cellOfOne wsX8_at := goodIn_r _ [4] (by decide +kernel) (by decide +kernel)
set_option maxRecDepth 20000 in
theorem gX4_cellOfOne_X8_at_n33 : GoodIn wsX4_cellOfOne (wsX8_at) := ggX4_cellOfOne_X8_at
theorem dX4_cellOfOne_0 : decode cX4_cellOfOne 0 = .ok (.aload_n 0, 1) := by decide +kernel
theorem dX4_cellOfOne_1 : decode cX4_cellOfOne 1 = .ok (.getfield 9, 3) := by decide +kernel
theorem dX4_cellOfOne_4 : decode cX4_cellOfOne 4 = .ok (.iload_n 1, 1) := by decide +kernel
theorem dX4_cellOfOne_5 : decode cX4_cellOfOne 5 = .ok (.invokestatic 33, 3) := by decide +kernel
theorem dX4_cellOfOne_8 : decode cX4_cellOfOne 8 = .ok (.ireturn, 1) := by decide +kernel
set_option maxRecDepth 20000 in
theorem ggX4_lookingOf_X8_at : GoodIn wsX4_lookingOf wsX8_at := goodIn_r _ [4] (by decide +kernel) (by decide +kernel)
set_option maxRecDepth 20000 in
theorem gX4_lookingOf_X8_at_n33 : GoodIn wsX4_lookingOf (wsX8_at) := ggX4_lookingOf_X8_at
theorem dX4_lookingOf_0 : decode cX4_lookingOf 0 = .ok (.aload_n 0, 1) := by decide +kernel
theorem dX4_lookingOf_1 : decode cX4_lookingOf 1 = .ok (.getfield 15, 3) := by decide +kernel
theorem dX4_lookingOf_4 : decode cX4_lookingOf 4 = .ok (.iload_n 1, 1) := by decide +kernel
theorem dX4_lookingOf_5 : decode cX4_lookingOf 5 = .ok (.invokestatic 33, 3) := by decide +kernel
theorem dX4_lookingOf_8 : decode cX4_lookingOf 8 = .ok (.ireturn, 1) := by decide +kernel
set_option maxRecDepth 20000 in
theorem ggX4_hasDog_X8_at : GoodIn wsX4_hasDog wsX8_at := goodIn_r _ [4] (by decide +kernel) (by decide +kernel)
set_option maxRecDepth 20000 in
theorem gX4_hasDog_X8_at_n33 : GoodIn wsX4_hasDog (wsX8_at) := ggX4_hasDog_X8_at
theorem dX4_hasDog_0 : decode cX4_hasDog 0 = .ok (.aload_n 0, 1) := by decide +kernel
theorem dX4_hasDog_1 : decode cX4_hasDog 1 = .ok (.getfield 18, 3) := by decide +kernel
theorem dX4_hasDog_4 : decode cX4_hasDog 4 = .ok (.iload_n 1, 1) := by decide +kernel
theorem dX4_hasDog_5 : decode cX4_hasDog 5 = .ok (.invokestatic 33, 3) := by decide +kernel
theorem dX4_hasDog_8 : decode cX4_hasDog 8 = .ok (.iconst 1, 1) := by decide +kernel
theorem dX4_hasDog_9 : decode cX4_hasDog 9 = .ok (.if_icmp .ne 7, 3) := by decide +kernel
theorem dX4_hasDog_12 : decode cX4_hasDog 12 = .ok (.iconst 1, 1) := by decide +kernel
theorem dX4_hasDog_13 : decode cX4_hasDog 13 = .ok (.goto 4, 3) := by decide +kernel
theorem dX4_hasDog_16 : decode cX4_hasDog 16 = .ok (.iconst 0, 1) := by decide +kernel
theorem dX4_hasDog_17 : decode cX4_hasDog 17 = .ok (.ireturn, 1) := by decide +kernel
set_option maxRecDepth 20000 in
theorem ggX4_copyFrom_X4_clear : GoodIn wsX4_copyFrom wsX4_clear := goodIn_r _ [6, 1, 35, 36, 37, 38] (by decide +kernel) (by decide +kernel)
set_option maxRecDepth 20000 in
theorem gX4_copyFrom_X4_clear : GoodIn wsX4_copyFrom (wsV RX4 37 RX4 yX4_clear wsX4_clear) := goodIn_app (goodIn_of _ (by decide +kernel)) ggX4_copyFrom_X4_clear
set_option maxRecDepth 20000 in
theorem ggX4_copyFrom_X4_cellOfOne : GoodIn wsX4_copyFrom wsX4_cellOfOne := goodIn_r _ [10, 11, 12, 13, 14, 35, 36, 37, 38] (by decide +kernel) (by decide +kernel)
set_option maxRecDepth 20000 in
theorem gX4_copyFrom_X4_cellOfOne : GoodIn wsX4_copyFrom (wsV RX4 41 RX4 yX4_cellOfOne wsX4_cellOfOne) := goodIn_app (goodIn_of _ (by decide +kernel)) ggX4_copyFrom_X4_cellOfOne
set_option maxRecDepth 20000 in
theorem ggX4_copyFrom_X4_lookingOf : GoodIn wsX4_copyFrom wsX4_lookingOf := goodIn_r _ [18, 19, 12, 13, 14, 35, 36, 37, 38] (by decide +kernel) (by decide +kernel)
set_option maxRecDepth 20000 in
theorem gX4_copyFrom_X4_lookingOf : GoodIn wsX4_copyFrom (wsV RX4 45 RX4 yX4_lookingOf wsX4_lookingOf) := goodIn_app (goodIn_of _ (by decide +kernel)) ggX4_copyFrom_X4_lookingOf
set_option maxRecDepth 20000 in
theorem ggX4_copyFrom_X4_hasDog : GoodIn wsX4_copyFrom wsX4_hasDog := goodIn_r _ [23, 24, 12, 13, 14, 35, 36, 37, 38] (by decide +kernel) (by decide +kernel)
set_option maxRecDepth 20000 in
theorem gX4_copyFrom_X4_hasDog : GoodIn wsX4_copyFrom (wsV RX4 48 RX4 yX4_hasDog wsX4_hasDog) := goodIn_app (goodIn_of _ (by decide +kernel)) ggX4_copyFrom_X4_hasDog
set_option maxRecDepth 20000 in
theorem ggX4_copyFrom_X4_add : GoodIn wsX4_copyFrom wsX4_add := goodIn_r _ [28, 11, 1, 19, 24, 29, 30, 31, 5, 32, 33, 13, 34, 35, 36, 37, 38] (by decide +kernel) (by decide +kernel)
set_option maxRecDepth 20000 in
theorem gX4_copyFrom_X4_add : GoodIn wsX4_copyFrom (wsV RX4 52 RX4 yX4_add wsX4_add) := goodIn_app (goodIn_of _ (by decide +kernel)) ggX4_copyFrom_X4_add
theorem dX4_copyFrom_0 : decode cX4_copyFrom 0 = .ok (.aload_n 0, 1) := by decide +kernel
theorem dX4_copyFrom_1 : decode cX4_copyFrom 1 = .ok (.invokevirtual 37, 3) := by decide +kernel
theorem dX4_copyFrom_4 : decode cX4_copyFrom 4 = .ok (.pop, 1) := by decide +kernel
theorem dX4_copyFrom_5 : decode cX4_copyFrom 5 = .ok (.iconst 0, 1) := by decide +kernel
theorem dX4_copyFrom_6 : decode cX4_copyFrom 6 = .ok (.istore_n 2, 1) := by decide +kernel
theorem dX4_copyFrom_7 : decode cX4_copyFrom 7 = .ok (.iload_n 2, 1) := by decide +kernel
theorem dX4_copyFrom_8 : decode cX4_copyFrom 8 = .ok (.aload_n 1, 1) := by decide +kernel
theorem dX4_copyFrom_9 : decode cX4_copyFrom 9 = .ok (.getfield 21, 3) := by decide +kernel
theorem dX4_copyFrom_12 : decode cX4_copyFrom 12 = .ok (.if_icmp .ge 29, 3) := by decide +kernel
theorem dX4_copyFrom_15 : decode cX4_copyFrom 15 = .ok (.aload_n 0, 1) := by decide +kernel
theorem dX4_copyFrom_16 : decode cX4_copyFrom 16 = .ok (.aload_n 1, 1) := by decide +kernel
theorem dX4_copyFrom_17 : decode cX4_copyFrom 17 = .ok (.iload_n 2, 1) := by decide +kernel
theorem dX4_copyFrom_18 : decode cX4_copyFrom 18 = .ok (.invokevirtual 41, 3) := by decide +kernel
theorem dX4_copyFrom_21 : decode cX4_copyFrom 21 = .ok (.aload_n 1, 1) := by decide +kernel
theorem dX4_copyFrom_22 : decode cX4_copyFrom 22 = .ok (.iload_n 2, 1) := by decide +kernel
theorem dX4_copyFrom_23 : decode cX4_copyFrom 23 = .ok (.invokevirtual 45, 3) := by decide +kernel
theorem dX4_copyFrom_26 : decode cX4_copyFrom 26 = .ok (.aload_n 1, 1) := by decide +kernel
theorem dX4_copyFrom_27 : decode cX4_copyFrom 27 = .ok (.iload_n 2, 1) := by decide +kernel
theorem dX4_copyFrom_28 : decode cX4_copyFrom 28 = .ok (.invokevirtual 48, 3) := by decide +kernel
theorem dX4_copyFrom_31 : decode cX4_copyFrom 31 = .ok (.invokevirtual 52, 3) := by decide +kernel
theorem dX4_copyFrom_34 : decode cX4_copyFrom 34 = .ok (.pop, 1) := by decide +kernel
theorem dX4_copyFrom_35 : decode cX4_copyFrom 35 = .ok (.iinc 2 1, 3) := by decide +kernel
theorem dX4_copyFrom_38 : decode cX4_copyFrom 38 = .ok (.goto (-31), 3) := by decide +kernel
theorem dX4_copyFrom_41 : decode cX4_copyFrom 41 = .ok (.return_, 1) := by decide +kernel
theorem dX5_init_0 : decode cX5_init 0 = .ok (.aload_n 0, 1) := by decide +kernel
theorem dX5_init_1 : decode cX5_init 1 = .ok (.invokespecial 3, 3) := by decide +kernel
theorem dX5_init_4 : decode cX5_init 4 = .ok (.aload_n 0, 1) := by decide +kernel
theorem dX5_init_5 : decode cX5_init 5 = .ok (.bipush 16, 2) := by decide +kernel
theorem dX5_init_7 : decode cX5_init 7 = .ok (.newarray .int, 2) := by decide +kernel
theorem dX5_init_9 : decode cX5_init 9 = .ok (.putfield 9, 3) := by decide +kernel
theorem dX5_init_12 : decode cX5_init 12 = .ok (.aload_n 0, 1) := by decide +kernel
theorem dX5_init_13 : decode cX5_init 13 = .ok (.bipush 16, 2) := by decide +kernel
theorem dX5_init_15 : decode cX5_init 15 = .ok (.newarray .int, 2) := by decide +kernel
theorem dX5_init_17 : decode cX5_init 17 = .ok (.putfield 15, 3) := by decide +kernel
theorem dX5_init_20 : decode cX5_init 20 = .ok (.return_, 1) := by decide +kernel
set_option maxRecDepth 20000 in
theorem ggX5_measure_X0_spread : GoodIn wsX5_measure wsX0_spread := goodIn_r _ [6, 7, 8, 9, 5, 10, 11, 12, 13, 14, 17, 18, 19, 20, 21, 22, 23, 24, 25, 26, 27, 28, 29] (by decide +kernel) (by decide +kernel)
set_option maxRecDepth 20000 in
theorem gX5_measure_X0_spread : GoodIn wsX5_measure (wsV RX5 18 RX0 yX0_spread wsX0_spread) := goodIn_app (goodIn_of _ (by decide +kernel)) ggX5_measure_X0_spread
theorem dX5_measure_0 : decode cX5_measure 0 = .ok (.iload_n 3, 1) := by decide +kernel
theorem dX5_measure_1 : decode cX5_measure 1 = .ok (.iload 4, 2) := by decide +kernel
theorem dX5_measure_3 : decode cX5_measure 3 = .ok (.iand, 1) := by decide +kernel
theorem dX5_measure_4 : decode cX5_measure 4 = .ok (.istore 5, 2) := by decide +kernel
theorem dX5_measure_6 : decode cX5_measure 6 = .ok (.iload 5, 2) := by decide +kernel
theorem dX5_measure_8 : decode cX5_measure 8 = .ok (.istore 6, 2) := by decide +kernel
theorem dX5_measure_10 : decode cX5_measure 10 = .ok (.iconst 0, 1) := by decide +kernel
theorem dX5_measure_11 : decode cX5_measure 11 = .ok (.istore 7, 2) := by decide +kernel
theorem dX5_measure_13 : decode cX5_measure 13 = .ok (.iload 7, 2) := by decide +kernel
theorem dX5_measure_15 : decode cX5_measure 15 = .ok (.aload_n 0, 1) := by decide +kernel
theorem dX5_measure_16 : decode cX5_measure 16 = .ok (.getfield 9, 3) := by decide +kernel
theorem dX5_measure_19 : decode cX5_measure 19 = .ok (.arraylength, 1) := by decide +kernel
theorem dX5_measure_20 : decode cX5_measure 20 = .ok (.if_icmp .ge 51, 3) := by decide +kernel
theorem dX5_measure_23 : decode cX5_measure 23 = .ok (.aload_n 0, 1) := by decide +kernel
theorem dX5_measure_24 : decode cX5_measure 24 = .ok (.getfield 9, 3) := by decide +kernel
theorem dX5_measure_27 : decode cX5_measure 27 = .ok (.iload 7, 2) := by decide +kernel
theorem dX5_measure_29 : decode cX5_measure 29 = .ok (.iload 5, 2) := by decide +kernel
theorem dX5_measure_31 : decode cX5_measure 31 = .ok (.iastore, 1) := by decide +kernel
theorem dX5_measure_32 : decode cX5_measure 32 = .ok (.iload 5, 2) := by decide +kernel
theorem dX5_measure_34 : decode cX5_measure 34 = .ok (.iload_n 2, 1) := by decide +kernel
theorem dX5_measure_35 : decode cX5_measure 35 = .ok (.iand, 1) := by decide +kernel
theorem dX5_measure_36 : decode cX5_measure 36 = .ok (.ifCond .eq 6, 3) := by decide +kernel
theorem dX5_measure_39 : decode cX5_measure 39 = .ok (.iload 7, 2) := by decide +kernel
theorem dX5_measure_41 : decode cX5_measure 41 = .ok (.ireturn, 1) := by decide +kernel
theorem dX5_measure_42 : decode cX5_measure 42 = .ok (.aload_n 1, 1) := by decide +kernel
theorem dX5_measure_43 : decode cX5_measure 43 = .ok (.iload 5, 2) := by decide +kernel
theorem dX5_measure_45 : decode cX5_measure 45 = .ok (.invokevirtual 18, 3) := by decide +kernel
theorem dX5_measure_48 : decode cX5_measure 48 = .ok (.iload 4, 2) := by decide +kernel
theorem dX5_measure_50 : decode cX5_measure 50 = .ok (.iand, 1) := by decide +kernel
theorem dX5_measure_51 : decode cX5_measure 51 = .ok (.iload 6, 2) := by decide +kernel
theorem dX5_measure_53 : decode cX5_measure 53 = .ok (.iconst (-1), 1) := by decide +kernel
theorem dX5_measure_54 : decode cX5_measure 54 = .ok (.ixor, 1) := by decide +kernel
theorem dX5_measure_55 : decode cX5_measure 55 = .ok (.iand, 1) := by decide +kernel
theorem dX5_measure_56 : decode cX5_measure 56 = .ok (.istore 5, 2) := by decide +kernel
theorem dX5_measure_58 : decode cX5_measure 58 = .ok (.iload 6, 2) := by decide +kernel
theorem dX5_measure_60 : decode cX5_measure 60 = .ok (.iload 5, 2) := by decide +kernel
theorem dX5_measure_62 : decode cX5_measure 62 = .ok (.ior, 1) := by decide +kernel
theorem dX5_measure_63 : decode cX5_measure 63 = .ok (.istore 6, 2) := by decide +kernel
theorem dX5_measure_65 : decode cX5_measure 65 = .ok (.iinc 7 1, 3) := by decide +kernel
theorem dX5_measure_68 : decode cX5_measure 68 = .ok (.goto (-55), 3) := by decide +kernel
theorem dX5_measure_71 : decode cX5_measure 71 = .ok (.bipush (-6), 2) := by decide +kernel
theorem dX5_measure_73 : decode cX5_measure 73 = .ok (.ireturn, 1) := by decide +kernel
set_option maxRecDepth 20000 in
theorem ggX5_stepOnWay_X5_measure : GoodIn wsX5_stepOnWay wsX5_measure := goodIn_r _ [6, 1, 7, 8, 9, 10, 11, 12, 13, 14, 15, 16, 17, 18, 19, 40, 41, 42, 43, 44, 45, 46, 47, 48, 49, 50, 51, 52, 53, 54] (by decide +kernel) (by decide +kernel)
set_option maxRecDepth 20000 in
theorem gX5_stepOnWay_X5_measure : GoodIn wsX5_stepOnWay (wsV RX5 24 RX5 yX5_measure wsX5_measure) := goodIn_app (goodIn_of _ (by decide +kernel)) ggX5_stepOnWay_X5_measure
set_option maxRecDepth 20000 in
theorem ggX5_stepOnWay_X8_at : GoodIn wsX5_stepOnWay wsX8_at := goodIn_r _ [22] (by decide +kernel) (by decide +kernel)
set_option maxRecDepth 20000 in
theorem gX5_stepOnWay_X8_at_n28 : GoodIn wsX5_stepOnWay (wsX8_at) := ggX5_stepOnWay_X8_at
set_option maxRecDepth 20000 in
theorem ggX5_stepOnWay_X5_firstStepInto : GoodIn wsX5_stepOnWay wsX5_firstStepInto := goodIn_r _ [25, 26, 27, 28, 10, 29, 12, 13, 14, 15, 16, 17, 18, 19, 30, 31, 32, 33, 34, 42, 43, 44, 45, 46, 47, 48, 49, 50, 51, 52, 53, 54] (by decide +kernel) (by decide +kernel)
set_option maxRecDepth 20000 in
theorem gX5_stepOnWay_X5_firstStepInto : GoodIn wsX5_stepOnWay (va_wsS RX5 32 yX5_firstStepInto wsX5_firstStepInto) := goodIn_app (goodIn_of _ (by decide +kernel)) ggX5_stepOnWay_X5_firstStepInto
set_option maxRecDepth 20000 in
theorem ggX5_stepOnWay_X0_stepOrStay : GoodIn wsX5_stepOnWay wsX0_stepOrStay := goodIn_r _ [38, 39, 27, 28, 10, 29, 12, 13, 14, 15, 16, 17, 18, 19, 30, 31, 32, 33, 34, 42, 43, 44, 45, 46, 47, 48, 49, 50, 51, 52, 53, 54] (by decide +kernel) (by decide +kernel)
set_option maxRecDepth 20000 in
theorem gX5_stepOnWay_X0_stepOrStay : GoodIn wsX5_stepOnWay (wsV RX5 36 RX0 yX0_stepOrStay wsX0_stepOrStay) := goodIn_app (goodIn_of _ (by decide +kernel)) ggX5_stepOnWay_X0_stepOrStay
theorem dX5_stepOnWay_0 : decode cX5_stepOnWay 0 = .ok (.iload_n 2, 1) := by decide +kernel
theorem dX5_stepOnWay_1 : decode cX5_stepOnWay 1 = .ok (.istore 6, 2) := by decide +kernel
theorem dX5_stepOnWay_3 : decode cX5_stepOnWay 3 = .ok (.aload_n 0, 1) := by decide +kernel
theorem dX5_stepOnWay_4 : decode cX5_stepOnWay 4 = .ok (.aload_n 1, 1) := by decide +kernel
theorem dX5_stepOnWay_5 : decode cX5_stepOnWay 5 = .ok (.iload_n 2, 1) := by decide +kernel
theorem dX5_stepOnWay_6 : decode cX5_stepOnWay 6 = .ok (.iload_n 3, 1) := by decide +kernel
theorem dX5_stepOnWay_7 : decode cX5_stepOnWay 7 = .ok (.iload 4, 2) := by decide +kernel
theorem dX5_stepOnWay_9 : decode cX5_stepOnWay 9 = .ok (.invokevirtual 24, 3) := by decide +kernel
theorem dX5_stepOnWay_12 : decode cX5_stepOnWay 12 = .ok (.istore 7, 2) := by decide +kernel
theorem dX5_stepOnWay_14 : decode cX5_stepOnWay 14 = .ok (.iconst 0, 1) := by decide +kernel
theorem dX5_stepOnWay_15 : decode cX5_stepOnWay 15 = .ok (.istore 8, 2) := by decide +kernel
theorem dX5_stepOnWay_17 : decode cX5_stepOnWay 17 = .ok (.iload 8, 2) := by decide +kernel
theorem dX5_stepOnWay_19 : decode cX5_stepOnWay 19 = .ok (.iload 7, 2) := by decide +kernel
theorem dX5_stepOnWay_21 : decode cX5_stepOnWay 21 = .ok (.if_icmp .ge 51, 3) := by decide +kernel
theorem dX5_stepOnWay_24 : decode cX5_stepOnWay 24 = .ok (.aload_n 1, 1) := by decide +kernel
theorem dX5_stepOnWay_25 : decode cX5_stepOnWay 25 = .ok (.iload 6, 2) := by decide +kernel
theorem dX5_stepOnWay_27 : decode cX5_stepOnWay 27 = .ok (.aload_n 0, 1) := by decide +kernel
theorem dX5_stepOnWay_28 : decode cX5_stepOnWay 28 = .ok (.getfield 9, 3) := by decide +kernel
theorem dX5_stepOnWay_31 : decode cX5_stepOnWay 31 = .ok (.iload 7, 2) := by decide +kernel
theorem dX5_stepOnWay_33 : decode cX5_stepOnWay 33 = .ok (.iload 8, 2) := by decide +kernel
theorem dX5_stepOnWay_35 : decode cX5_stepOnWay 35 = .ok (.isub, 1) := by decide +kernel
theorem dX5_stepOnWay_36 : decode cX5_stepOnWay 36 = .ok (.iconst 1, 1) := by decide +kernel
theorem dX5_stepOnWay_37 : decode cX5_stepOnWay 37 = .ok (.isub, 1) := by decide +kernel
theorem dX5_stepOnWay_38 : decode cX5_stepOnWay 38 = .ok (.invokestatic 28, 3) := by decide +kernel
theorem dX5_stepOnWay_41 : decode cX5_stepOnWay 41 = .ok (.invokestatic 32, 3) := by decide +kernel
theorem dX5_stepOnWay_44 : decode cX5_stepOnWay 44 = .ok (.istore 9, 2) := by decide +kernel
theorem dX5_stepOnWay_46 : decode cX5_stepOnWay 46 = .ok (.iload 8, 2) := by decide +kernel
theorem dX5_stepOnWay_48 : decode cX5_stepOnWay 48 = .ok (.iload 5, 2) := by decide +kernel
theorem dX5_stepOnWay_50 : decode cX5_stepOnWay 50 = .ok (.if_icmp .ne 6, 3) := by decide +kernel
theorem dX5_stepOnWay_53 : decode cX5_stepOnWay 53 = .ok (.iload 9, 2) := by decide +kernel
theorem dX5_stepOnWay_55 : decode cX5_stepOnWay 55 = .ok (.ireturn, 1) := by decide +kernel
theorem dX5_stepOnWay_56 : decode cX5_stepOnWay 56 = .ok (.aload_n 1, 1) := by decide +kernel
theorem dX5_stepOnWay_57 : decode cX5_stepOnWay 57 = .ok (.iload 6, 2) := by decide +kernel
theorem dX5_stepOnWay_59 : decode cX5_stepOnWay 59 = .ok (.iload 9, 2) := by decide +kernel
theorem dX5_stepOnWay_61 : decode cX5_stepOnWay 61 = .ok (.invokevirtual 36, 3) := by decide +kernel
theorem dX5_stepOnWay_64 : decode cX5_stepOnWay 64 = .ok (.istore 6, 2) := by decide +kernel
theorem dX5_stepOnWay_66 : decode cX5_stepOnWay 66 = .ok (.iinc 8 1, 3) := by decide +kernel
theorem dX5_stepOnWay_69 : decode cX5_stepOnWay 69 = .ok (.goto (-52), 3) := by decide +kernel
theorem dX5_stepOnWay_72 : decode cX5_stepOnWay 72 = .ok (.bipush (-6), 2) := by decide +kernel
theorem dX5_stepOnWay_74 : decode cX5_stepOnWay 74 = .ok (.ireturn, 1) := by decide +kernel
set_option maxRecDepth 20000 in
theorem ggX5_firstStepInto_X0_stepTo : GoodIn wsX5_firstStepInto wsX0_stepTo := goodIn_r _ [5, 6, 7, 8, 4, 9, 10, 11, 12, 13, 14, 15, 16, 17, 18, 19, 20, 21, 22, 23, 24, 25, 26, 27, 28, 29, 30, 31] (by decide +kernel) (by decide +kernel)
set_option maxRecDepth 20000 in
theorem gX5_firstStepInto_X0_stepTo : GoodIn wsX5_firstStepInto (wsV RX5 40 RX0 yX0_stepTo wsX0_stepTo) := goodIn_app (goodIn_of _ (by decide +kernel)) ggX5_firstStepInto_X0_stepTo
theorem dX5_firstStepInto_0 : decode cX5_firstStepInto 0 = .ok (.iconst 0, 1) := by decide +kernel
theorem dX5_firstStepInto_1 : decode cX5_firstStepInto 1 = .ok (.istore_n 3, 1) := by decide +kernel
theorem dX5_firstStepInto_2 : decode cX5_firstStepInto 2 = .ok (.iload_n 3, 1) := by decide +kernel
theorem dX5_firstStepInto_3 : decode cX5_firstStepInto 3 = .ok (.iconst 4, 1) := by decide +kernel
theorem dX5_firstStepInto_4 : decode cX5_firstStepInto 4 = .ok (.if_icmp .ge 22, 3) := by decide +kernel
theorem dX5_firstStepInto_7 : decode cX5_firstStepInto 7 = .ok (.aload_n 0, 1) := by decide +kernel
theorem dX5_firstStepInto_8 : decode cX5_firstStepInto 8 = .ok (.iload_n 1, 1) := by decide +kernel
theorem dX5_firstStepInto_9 : decode cX5_firstStepInto 9 = .ok (.iload_n 3, 1) := by decide +kernel
theorem dX5_firstStepInto_10 : decode cX5_firstStepInto 10 = .ok (.invokevirtual 40, 3) := by decide +kernel
theorem dX5_firstStepInto_13 : decode cX5_firstStepInto 13 = .ok (.iload_n 2, 1) := by decide +kernel
theorem dX5_firstStepInto_14 : decode cX5_firstStepInto 14 = .ok (.iand, 1) := by decide +kernel
theorem dX5_firstStepInto_15 : decode cX5_firstStepInto 15 = .ok (.ifCond .eq 5, 3) := by decide +kernel
theorem dX5_firstStepInto_18 : decode cX5_firstStepInto 18 = .ok (.iload_n 3, 1) := by decide +kernel
theorem dX5_firstStepInto_19 : decode cX5_firstStepInto 19 = .ok (.ireturn, 1) := by decide +kernel
theorem dX5_firstStepInto_20 : decode cX5_firstStepInto 20 = .ok (.iinc 3 1, 3) := by decide +kernel
theorem dX5_firstStepInto_23 : decode cX5_firstStepInto 23 = .ok (.goto (-21), 3) := by decide +kernel
theorem dX5_firstStepInto_26 : decode cX5_firstStepInto 26 = .ok (.bipush (-6), 2) := by decide +kernel
theorem dX5_firstStepInto_28 : decode cX5_firstStepInto 28 = .ok (.ireturn, 1) := by decide +kernel
set_option maxRecDepth 20000 in
theorem ggX5_fewestShowingSteps_X0_open : GoodIn wsX5_fewestShowingSteps wsX0_open := goodIn_r _ [8, 9, 10, 100, 101, 102, 103, 104, 105, 106, 107, 108, 109, 110, 111, 112] (by decide +kernel) (by decide +kernel)
set_option maxRecDepth 20000 in
theorem gX5_fewestShowingSteps_X0_open : GoodIn wsX5_fewestShowingSteps (wsV RX5 43 RX0 yX0_open wsX0_open) := goodIn_app (goodIn_of _ (by decide +kernel)) ggX5_fewestShowingSteps_X0_open
set_option maxRecDepth 20000 in
theorem ggX5_fewestShowingSteps_X0_bareCells : GoodIn wsX5_fewestShowingSteps wsX0_bareCells := goodIn_r _ [14, 15, 16, 17, 5, 6, 7, 8, 9, 10, 18, 19, 20, 21, 22, 23, 24, 25, 26, 27, 28, 29, 30, 31, 32, 33, 34, 35, 36, 37, 38, 39, 40, 41, 42, 43, 44, 45, 46, 47, 48, 49, 50, 51, 52, 53, 54, 55, 56, 57, 58, 59, 60, 61, 62, 63, 64, 65, 100, 101, 102, 103, 104, 105, 106, 107, 108, 109, 110, 111, 112, 113, 114, 115, 116] (by decide +kernel) (by decide +kernel)
set_option maxRecDepth 20000 in
theorem gX5_fewestShowingSteps_X0_bareCells : GoodIn wsX5_fewestShowingSteps (wsV RX5 47 RX0 yX0_bareCells wsX0_bareCells) := goodIn_app (goodIn_of _ (by decide +kernel)) ggX5_fewestShowingSteps_X0_bareCells
set_option maxRecDepth 20000 in
theorem ggX5_fewestShowingSteps_J7_fill_53178 : GoodIn wsX5_fewestShowingSteps wsJ7_fill_53178 := goodIn_r _ [69] (by decide +kernel) (by decide +kernel)
set_option maxRecDepth 20000 in
theorem gX5_fewestShowingSteps_J7_fill_53178 : GoodIn wsX5_fewestShowingSteps (va_wsS RX5 50 yJ7_fill_53178 wsJ7_fill_53178) := goodIn_app (goodIn_of _ (by decide +kernel)) ggX5_fewestShowingSteps_J7_fill_53178
set_option maxRecDepth 20000 in
theorem ggX5_fewestShowingSteps_X5_costLayer : GoodIn wsX5_fewestShowingSteps wsX5_costLayer := goodIn_r _ [74, 1, 3, 24, 25, 26, 75, 76, 77, 78, 79, 73, 80, 81, 82, 83, 84, 49, 50, 85, 86, 87, 7, 88, 51, 52, 53, 54, 55, 56, 9, 57, 17, 5, 6, 8, 10, 89, 90, 91, 92, 93, 94, 95, 96, 97, 98, 99, 100, 101, 102, 103, 104, 105, 106, 107, 108, 109, 110, 111, 112] (by decide +kernel) (by decide +kernel)
set_option maxRecDepth 20000 in
theorem gX5_fewestShowingSteps_X5_costLayer : GoodIn wsX5_fewestShowingSteps (wsV RX5 56 RX5 yX5_costLayer wsX5_costLayer) := goodIn_app (goodIn_of _ (by decide +kernel)) ggX5_fewestShowingSteps_X5_costLayer
set_option maxRecDepth 20000 in
theorem ggX5_fewestShowingSteps_X8_at : GoodIn wsX5_fewestShowingSteps wsX8_at := goodIn_r _ [26] (by decide +kernel) (by decide +kernel)
set_option maxRecDepth 20000 in
theorem gX5_fewestShowingSteps_X8_at_n28 : GoodIn wsX5_fewestShowingSteps (wsX8_at) := ggX5_fewestShowingSteps_X8_at
set_option maxRecDepth 20000 in
theorem ggX5_fewestShowingSteps_X5_cheapestBefore : GoodIn wsX5_fewestShowingSteps wsX5_cheapestBefore := goodIn_r _ [80, 1, 81, 82, 83, 84, 49, 25, 50, 85, 86, 87, 7, 88, 51, 52, 53, 54, 55, 56, 9, 57, 17, 5, 6, 8, 10, 89, 90, 91, 92, 93, 94, 95, 96, 97, 24, 26, 98, 99, 100, 101, 102, 103, 104, 105, 106, 107, 108, 109, 110, 111, 112] (by decide +kernel) (by decide +kernel)
set_option maxRecDepth 20000 in
theorem gX5_fewestShowingSteps_X5_cheapestBefore : GoodIn wsX5_fewestShowingSteps (wsV RX5 64 RX5 yX5_cheapestBefore wsX5_cheapestBefore) := goodIn_app (goodIn_of _ (by decide +kernel)) ggX5_fewestShowingSteps_X5_cheapestBefore
set_option maxRecDepth 20000 in
theorem ggX5_fewestShowingSteps_X8_has : GoodIn wsX5_fewestShowingSteps wsX8_has := goodIn_r _ [76] (by decide +kernel) (by decide +kernel)
set_option maxRecDepth 20000 in
theorem gX5_fewestShowingSteps_X8_has_n67 : GoodIn wsX5_fewestShowingSteps (wsX8_has) := ggX5_fewestShowingSteps_X8_has
theorem dX5_fewestShowingSteps_0 : decode cX5_fewestShowingSteps 0 = .ok (.iload_n 2, 1) := by decide +kernel
theorem dX5_fewestShowingSteps_1 : decode cX5_fewestShowingSteps 1 = .ok (.ifCond .ne 5, 3) := by decide +kernel
theorem dX5_fewestShowingSteps_4 : decode cX5_fewestShowingSteps 4 = .ok (.iconst 0, 1) := by decide +kernel
theorem dX5_fewestShowingSteps_5 : decode cX5_fewestShowingSteps 5 = .ok (.ireturn, 1) := by decide +kernel
theorem dX5_fewestShowingSteps_6 : decode cX5_fewestShowingSteps 6 = .ok (.aload_n 1, 1) := by decide +kernel
theorem dX5_fewestShowingSteps_7 : decode cX5_fewestShowingSteps 7 = .ok (.invokevirtual 43, 3) := by decide +kernel
theorem dX5_fewestShowingSteps_10 : decode cX5_fewestShowingSteps 10 = .ok (.aload_n 1, 1) := by decide +kernel
theorem dX5_fewestShowingSteps_11 : decode cX5_fewestShowingSteps 11 = .ok (.invokevirtual 47, 3) := by decide +kernel
theorem dX5_fewestShowingSteps_14 : decode cX5_fewestShowingSteps 14 = .ok (.iconst (-1), 1) := by decide +kernel
theorem dX5_fewestShowingSteps_15 : decode cX5_fewestShowingSteps 15 = .ok (.ixor, 1) := by decide +kernel
theorem dX5_fewestShowingSteps_16 : decode cX5_fewestShowingSteps 16 = .ok (.iand, 1) := by decide +kernel
theorem dX5_fewestShowingSteps_17 : decode cX5_fewestShowingSteps 17 = .ok (.istore_n 3, 1) := by decide +kernel
theorem dX5_fewestShowingSteps_18 : decode cX5_fewestShowingSteps 18 = .ok (.aload_n 0, 1) := by decide +kernel
theorem dX5_fewestShowingSteps_19 : decode cX5_fewestShowingSteps 19 = .ok (.getfield 15, 3) := by decide +kernel
theorem dX5_fewestShowingSteps_22 : decode cX5_fewestShowingSteps 22 = .ok (.iconst 0, 1) := by decide +kernel
theorem dX5_fewestShowingSteps_23 : decode cX5_fewestShowingSteps 23 = .ok (.invokestatic 50, 3) := by decide +kernel
theorem dX5_fewestShowingSteps_26 : decode cX5_fewestShowingSteps 26 = .ok (.iconst 1, 1) := by decide +kernel
theorem dX5_fewestShowingSteps_27 : decode cX5_fewestShowingSteps 27 = .ok (.istore 4, 2) := by decide +kernel
theorem dX5_fewestShowingSteps_29 : decode cX5_fewestShowingSteps 29 = .ok (.iload 4, 2) := by decide +kernel
theorem dX5_fewestShowingSteps_31 : decode cX5_fewestShowingSteps 31 = .ok (.iload_n 2, 1) := by decide +kernel
theorem dX5_fewestShowingSteps_32 : decode cX5_fewestShowingSteps 32 = .ok (.if_icmp .gt 17, 3) := by decide +kernel
theorem dX5_fewestShowingSteps_35 : decode cX5_fewestShowingSteps 35 = .ok (.aload_n 0, 1) := by decide +kernel
theorem dX5_fewestShowingSteps_36 : decode cX5_fewestShowingSteps 36 = .ok (.aload_n 1, 1) := by decide +kernel
theorem dX5_fewestShowingSteps_37 : decode cX5_fewestShowingSteps 37 = .ok (.iload 4, 2) := by decide +kernel
theorem dX5_fewestShowingSteps_39 : decode cX5_fewestShowingSteps 39 = .ok (.iload_n 3, 1) := by decide +kernel
theorem dX5_fewestShowingSteps_40 : decode cX5_fewestShowingSteps 40 = .ok (.invokevirtual 56, 3) := by decide +kernel
theorem dX5_fewestShowingSteps_43 : decode cX5_fewestShowingSteps 43 = .ok (.iinc 4 1, 3) := by decide +kernel
theorem dX5_fewestShowingSteps_46 : decode cX5_fewestShowingSteps 46 = .ok (.goto (-17), 3) := by decide +kernel
theorem dX5_fewestShowingSteps_49 : decode cX5_fewestShowingSteps 49 = .ok (.aload_n 0, 1) := by decide +kernel
theorem dX5_fewestShowingSteps_50 : decode cX5_fewestShowingSteps 50 = .ok (.aload_n 1, 1) := by decide +kernel
theorem dX5_fewestShowingSteps_51 : decode cX5_fewestShowingSteps 51 = .ok (.aload_n 1, 1) := by decide +kernel
theorem dX5_fewestShowingSteps_52 : decode cX5_fewestShowingSteps 52 = .ok (.getfield 60, 3) := by decide +kernel
theorem dX5_fewestShowingSteps_55 : decode cX5_fewestShowingSteps 55 = .ok (.aload_n 0, 1) := by decide +kernel
theorem dX5_fewestShowingSteps_56 : decode cX5_fewestShowingSteps 56 = .ok (.getfield 9, 3) := by decide +kernel
theorem dX5_fewestShowingSteps_59 : decode cX5_fewestShowingSteps 59 = .ok (.iload_n 2, 1) := by decide +kernel
theorem dX5_fewestShowingSteps_60 : decode cX5_fewestShowingSteps 60 = .ok (.iconst 1, 1) := by decide +kernel
theorem dX5_fewestShowingSteps_61 : decode cX5_fewestShowingSteps 61 = .ok (.isub, 1) := by decide +kernel
theorem dX5_fewestShowingSteps_62 : decode cX5_fewestShowingSteps 62 = .ok (.invokestatic 28, 3) := by decide +kernel
theorem dX5_fewestShowingSteps_65 : decode cX5_fewestShowingSteps 65 = .ok (.invokevirtual 64, 3) := by decide +kernel
theorem dX5_fewestShowingSteps_68 : decode cX5_fewestShowingSteps 68 = .ok (.istore 4, 2) := by decide +kernel
theorem dX5_fewestShowingSteps_70 : decode cX5_fewestShowingSteps 70 = .ok (.iconst 2, 1) := by decide +kernel
theorem dX5_fewestShowingSteps_71 : decode cX5_fewestShowingSteps 71 = .ok (.iload 4, 2) := by decide +kernel
theorem dX5_fewestShowingSteps_73 : decode cX5_fewestShowingSteps 73 = .ok (.imul, 1) := by decide +kernel
theorem dX5_fewestShowingSteps_74 : decode cX5_fewestShowingSteps 74 = .ok (.iload_n 3, 1) := by decide +kernel
theorem dX5_fewestShowingSteps_75 : decode cX5_fewestShowingSteps 75 = .ok (.aload_n 1, 1) := by decide +kernel
theorem dX5_fewestShowingSteps_76 : decode cX5_fewestShowingSteps 76 = .ok (.getfield 60, 3) := by decide +kernel
theorem dX5_fewestShowingSteps_79 : decode cX5_fewestShowingSteps 79 = .ok (.invokestatic 67, 3) := by decide +kernel
theorem dX5_fewestShowingSteps_82 : decode cX5_fewestShowingSteps 82 = .ok (.ifCond .eq 7, 3) := by decide +kernel
theorem dX5_fewestShowingSteps_85 : decode cX5_fewestShowingSteps 85 = .ok (.iconst 1, 1) := by decide +kernel
theorem dX5_fewestShowingSteps_86 : decode cX5_fewestShowingSteps 86 = .ok (.goto 4, 3) := by decide +kernel
theorem dX5_fewestShowingSteps_89 : decode cX5_fewestShowingSteps 89 = .ok (.iconst 0, 1) := by decide +kernel
theorem dX5_fewestShowingSteps_90 : decode cX5_fewestShowingSteps 90 = .ok (.iadd, 1) := by decide +kernel
theorem dX5_fewestShowingSteps_91 : decode cX5_fewestShowingSteps 91 = .ok (.ireturn, 1) := by decide +kernel
set_option maxRecDepth 20000 in
theorem ggX5_costLayer_X8_at : GoodIn wsX5_costLayer wsX8_at := goodIn_r _ [5] (by decide +kernel) (by decide +kernel)
set_option maxRecDepth 20000 in
theorem gX5_costLayer_X8_at_n28 : GoodIn wsX5_costLayer (wsX8_at) := ggX5_costLayer_X8_at
set_option maxRecDepth 20000 in
theorem ggX5_costLayer_X8_has : GoodIn wsX5_costLayer wsX8_has := goodIn_r _ [7] (by decide +kernel) (by decide +kernel)
set_option maxRecDepth 20000 in
theorem gX5_costLayer_X8_has_n67 : GoodIn wsX5_costLayer (wsX8_has) := ggX5_costLayer_X8_has
set_option maxRecDepth 20000 in
theorem ggX5_costLayer_X5_cheapestBefore : GoodIn wsX5_costLayer wsX5_cheapestBefore := goodIn_r _ [12, 1, 13, 14, 15, 16, 17, 4, 18, 19, 20, 21, 22, 23, 24, 25, 26, 27, 28, 29, 30, 31, 32, 33, 34, 35, 36, 37, 38, 39, 40, 41, 42, 43, 44, 45, 3, 5, 46, 47, 48, 49, 50, 51, 52, 53, 54, 55, 56, 57, 58, 59, 60] (by decide +kernel) (by decide +kernel)
set_option maxRecDepth 20000 in
theorem gX5_costLayer_X5_cheapestBefore : GoodIn wsX5_costLayer (wsV RX5 64 RX5 yX5_cheapestBefore wsX5_cheapestBefore) := goodIn_app (goodIn_of _ (by decide +kernel)) ggX5_costLayer_X5_cheapestBefore
theorem dX5_costLayer_0 : decode cX5_costLayer 0 = .ok (.iconst 0, 1) := by decide +kernel
theorem dX5_costLayer_1 : decode cX5_costLayer 1 = .ok (.istore 4, 2) := by decide +kernel
theorem dX5_costLayer_3 : decode cX5_costLayer 3 = .ok (.iload 4, 2) := by decide +kernel
theorem dX5_costLayer_5 : decode cX5_costLayer 5 = .ok (.aload_n 0, 1) := by decide +kernel
theorem dX5_costLayer_6 : decode cX5_costLayer 6 = .ok (.getfield 15, 3) := by decide +kernel
theorem dX5_costLayer_9 : decode cX5_costLayer 9 = .ok (.arraylength, 1) := by decide +kernel
theorem dX5_costLayer_10 : decode cX5_costLayer 10 = .ok (.if_icmp .ge 64, 3) := by decide +kernel
theorem dX5_costLayer_13 : decode cX5_costLayer 13 = .ok (.aload_n 0, 1) := by decide +kernel
theorem dX5_costLayer_14 : decode cX5_costLayer 14 = .ok (.getfield 9, 3) := by decide +kernel
theorem dX5_costLayer_17 : decode cX5_costLayer 17 = .ok (.iload_n 2, 1) := by decide +kernel
theorem dX5_costLayer_18 : decode cX5_costLayer 18 = .ok (.invokestatic 28, 3) := by decide +kernel
theorem dX5_costLayer_21 : decode cX5_costLayer 21 = .ok (.iload 4, 2) := by decide +kernel
theorem dX5_costLayer_23 : decode cX5_costLayer 23 = .ok (.invokestatic 67, 3) := by decide +kernel
theorem dX5_costLayer_26 : decode cX5_costLayer 26 = .ok (.ifCond .eq 42, 3) := by decide +kernel
theorem dX5_costLayer_29 : decode cX5_costLayer 29 = .ok (.aload_n 0, 1) := by decide +kernel
theorem dX5_costLayer_30 : decode cX5_costLayer 30 = .ok (.getfield 15, 3) := by decide +kernel
theorem dX5_costLayer_33 : decode cX5_costLayer 33 = .ok (.iload 4, 2) := by decide +kernel
theorem dX5_costLayer_35 : decode cX5_costLayer 35 = .ok (.aload_n 0, 1) := by decide +kernel
theorem dX5_costLayer_36 : decode cX5_costLayer 36 = .ok (.aload_n 1, 1) := by decide +kernel
theorem dX5_costLayer_37 : decode cX5_costLayer 37 = .ok (.iload 4, 2) := by decide +kernel
theorem dX5_costLayer_39 : decode cX5_costLayer 39 = .ok (.aload_n 0, 1) := by decide +kernel
theorem dX5_costLayer_40 : decode cX5_costLayer 40 = .ok (.getfield 9, 3) := by decide +kernel
theorem dX5_costLayer_43 : decode cX5_costLayer 43 = .ok (.iload_n 2, 1) := by decide +kernel
theorem dX5_costLayer_44 : decode cX5_costLayer 44 = .ok (.iconst 1, 1) := by decide +kernel
theorem dX5_costLayer_45 : decode cX5_costLayer 45 = .ok (.isub, 1) := by decide +kernel
theorem dX5_costLayer_46 : decode cX5_costLayer 46 = .ok (.invokestatic 28, 3) := by decide +kernel
theorem dX5_costLayer_49 : decode cX5_costLayer 49 = .ok (.invokevirtual 64, 3) := by decide +kernel
theorem dX5_costLayer_52 : decode cX5_costLayer 52 = .ok (.iload_n 3, 1) := by decide +kernel
theorem dX5_costLayer_53 : decode cX5_costLayer 53 = .ok (.iload 4, 2) := by decide +kernel
theorem dX5_costLayer_55 : decode cX5_costLayer 55 = .ok (.invokestatic 67, 3) := by decide +kernel
theorem dX5_costLayer_58 : decode cX5_costLayer 58 = .ok (.ifCond .eq 7, 3) := by decide +kernel
theorem dX5_costLayer_61 : decode cX5_costLayer 61 = .ok (.iconst 1, 1) := by decide +kernel
theorem dX5_costLayer_62 : decode cX5_costLayer 62 = .ok (.goto 4, 3) := by decide +kernel
theorem dX5_costLayer_65 : decode cX5_costLayer 65 = .ok (.iconst 0, 1) := by decide +kernel
theorem dX5_costLayer_66 : decode cX5_costLayer 66 = .ok (.iadd, 1) := by decide +kernel
theorem dX5_costLayer_67 : decode cX5_costLayer 67 = .ok (.iastore, 1) := by decide +kernel
theorem dX5_costLayer_68 : decode cX5_costLayer 68 = .ok (.iinc 4 1, 3) := by decide +kernel
theorem dX5_costLayer_71 : decode cX5_costLayer 71 = .ok (.goto (-68), 3) := by decide +kernel
theorem dX5_costLayer_74 : decode cX5_costLayer 74 = .ok (.return_, 1) := by decide +kernel
set_option maxRecDepth 20000 in
theorem ggX5_cheapestBefore_X8_bit : GoodIn wsX5_cheapestBefore wsX8_bit := goodIn_r _ [8] (by decide +kernel) (by decide +kernel)
set_option maxRecDepth 20000 in
theorem gX5_cheapestBefore_X8_bit_n71 : GoodIn wsX5_cheapestBefore (wsX8_bit) := ggX5_cheapestBefore_X8_bit
set_option maxRecDepth 20000 in
theorem ggX5_cheapestBefore_X0_stepTo : GoodIn wsX5_cheapestBefore wsX0_stepTo := goodIn_r _ [13, 14, 15, 16, 12, 17, 18, 19, 20, 21, 22, 23, 24, 25, 26, 40, 41, 42, 43, 44, 45, 46, 47, 48, 49, 50, 51, 52] (by decide +kernel) (by decide +kernel)
set_option maxRecDepth 20000 in
theorem gX5_cheapestBefore_X0_stepTo : GoodIn wsX5_cheapestBefore (wsV RX5 40 RX0 yX0_stepTo wsX0_stepTo) := goodIn_app (goodIn_of _ (by decide +kernel)) ggX5_cheapestBefore_X0_stepTo
set_option maxRecDepth 20000 in
theorem ggX5_cheapestBefore_X8_cellOf : GoodIn wsX5_cheapestBefore wsX8_cellOf := goodIn_r _ [28, 29, 30, 31, 32, 33, 34, 35] (by decide +kernel) (by decide +kernel)
set_option maxRecDepth 20000 in
theorem gX5_cheapestBefore_X8_cellOf_n74 : GoodIn wsX5_cheapestBefore (wsX8_cellOf) := ggX5_cheapestBefore_X8_cellOf
set_option maxRecDepth 20000 in
theorem ggX5_cheapestBefore_X8_at : GoodIn wsX5_cheapestBefore wsX8_at := goodIn_r _ [37] (by decide +kernel) (by decide +kernel)
set_option maxRecDepth 20000 in
theorem gX5_cheapestBefore_X8_at_n28 : GoodIn wsX5_cheapestBefore (wsX8_at) := ggX5_cheapestBefore_X8_at
theorem dX5_cheapestBefore_0 : decode cX5_cheapestBefore 0 = .ok (.bipush 16, 2) := by decide +kernel
theorem dX5_cheapestBefore_2 : decode cX5_cheapestBefore 2 = .ok (.istore 4, 2) := by decide +kernel
theorem dX5_cheapestBefore_4 : decode cX5_cheapestBefore 4 = .ok (.iconst 0, 1) := by decide +kernel
theorem dX5_cheapestBefore_5 : decode cX5_cheapestBefore 5 = .ok (.istore 5, 2) := by decide +kernel
theorem dX5_cheapestBefore_7 : decode cX5_cheapestBefore 7 = .ok (.iload 5, 2) := by decide +kernel
theorem dX5_cheapestBefore_9 : decode cX5_cheapestBefore 9 = .ok (.iconst 4, 1) := by decide +kernel
theorem dX5_cheapestBefore_10 : decode cX5_cheapestBefore 10 = .ok (.if_icmp .ge 47, 3) := by decide +kernel
theorem dX5_cheapestBefore_13 : decode cX5_cheapestBefore 13 = .ok (.aload_n 1, 1) := by decide +kernel
theorem dX5_cheapestBefore_14 : decode cX5_cheapestBefore 14 = .ok (.iload_n 2, 1) := by decide +kernel
theorem dX5_cheapestBefore_15 : decode cX5_cheapestBefore 15 = .ok (.invokestatic 71, 3) := by decide +kernel
theorem dX5_cheapestBefore_18 : decode cX5_cheapestBefore 18 = .ok (.iload 5, 2) := by decide +kernel
theorem dX5_cheapestBefore_20 : decode cX5_cheapestBefore 20 = .ok (.invokevirtual 40, 3) := by decide +kernel
theorem dX5_cheapestBefore_23 : decode cX5_cheapestBefore 23 = .ok (.iload_n 3, 1) := by decide +kernel
theorem dX5_cheapestBefore_24 : decode cX5_cheapestBefore 24 = .ok (.iand, 1) := by decide +kernel
theorem dX5_cheapestBefore_25 : decode cX5_cheapestBefore 25 = .ok (.istore 6, 2) := by decide +kernel
theorem dX5_cheapestBefore_27 : decode cX5_cheapestBefore 27 = .ok (.iload 6, 2) := by decide +kernel
theorem dX5_cheapestBefore_29 : decode cX5_cheapestBefore 29 = .ok (.ifCond .eq 22, 3) := by decide +kernel
theorem dX5_cheapestBefore_32 : decode cX5_cheapestBefore 32 = .ok (.iload 4, 2) := by decide +kernel
theorem dX5_cheapestBefore_34 : decode cX5_cheapestBefore 34 = .ok (.aload_n 0, 1) := by decide +kernel
theorem dX5_cheapestBefore_35 : decode cX5_cheapestBefore 35 = .ok (.getfield 15, 3) := by decide +kernel
theorem dX5_cheapestBefore_38 : decode cX5_cheapestBefore 38 = .ok (.iload 6, 2) := by decide +kernel
theorem dX5_cheapestBefore_40 : decode cX5_cheapestBefore 40 = .ok (.invokestatic 74, 3) := by decide +kernel
theorem dX5_cheapestBefore_43 : decode cX5_cheapestBefore 43 = .ok (.invokestatic 28, 3) := by decide +kernel
theorem dX5_cheapestBefore_46 : decode cX5_cheapestBefore 46 = .ok (.invokestatic 77, 3) := by decide +kernel
theorem dX5_cheapestBefore_49 : decode cX5_cheapestBefore 49 = .ok (.istore 4, 2) := by decide +kernel
theorem dX5_cheapestBefore_51 : decode cX5_cheapestBefore 51 = .ok (.iinc 5 1, 3) := by decide +kernel
theorem dX5_cheapestBefore_54 : decode cX5_cheapestBefore 54 = .ok (.goto (-47), 3) := by decide +kernel
theorem dX5_cheapestBefore_57 : decode cX5_cheapestBefore 57 = .ok (.iload 4, 2) := by decide +kernel
theorem dX5_cheapestBefore_59 : decode cX5_cheapestBefore 59 = .ok (.ireturn, 1) := by decide +kernel
set_option maxRecDepth 20000 in
theorem ggX5_fewestCut_X0_around : GoodIn wsX5_fewestCut wsX0_around := goodIn_r _ [7, 8, 9, 10, 11, 12, 13, 6, 14, 15, 16, 17, 18, 19, 20, 21, 22, 38, 39, 40, 41, 42, 43, 44, 45, 46, 47, 48, 49, 50] (by decide +kernel) (by decide +kernel)
set_option maxRecDepth 20000 in
theorem gX5_fewestCut_X0_around : GoodIn wsX5_fewestCut (wsV RX5 85 RX0 yX0_around wsX0_around) := goodIn_app (goodIn_of _ (by decide +kernel)) ggX5_fewestCut_X0_around
set_option maxRecDepth 20000 in
theorem ggX5_fewestCut_X8_has : GoodIn wsX5_fewestCut wsX8_has := goodIn_r _ [24] (by decide +kernel) (by decide +kernel)
set_option maxRecDepth 20000 in
theorem gX5_fewestCut_X8_has_n67 : GoodIn wsX5_fewestCut (wsX8_has) := ggX5_fewestCut_X8_has
set_option maxRecDepth 20000 in
theorem ggX5_fewestCut_X5_firstCut : GoodIn wsX5_fewestCut wsX5_firstCut := goodIn_r _ [28, 1, 2, 29, 30, 27, 31, 32, 33, 34, 6, 35, 21, 36, 8, 9, 10, 23, 24, 37, 12, 13, 14, 15, 16, 17, 18, 19, 20, 22, 25, 26, 38, 39, 40, 41, 42, 43, 44, 45, 46, 47, 48, 49, 50] (by decide +kernel) (by decide +kernel)
set_option maxRecDepth 20000 in
theorem gX5_fewestCut_X5_firstCut : GoodIn wsX5_fewestCut (va_wsS RX5 88 yX5_firstCut wsX5_firstCut) := goodIn_app (goodIn_of _ (by decide +kernel)) ggX5_fewestCut_X5_firstCut
theorem dX5_fewestCut_0 : decode cX5_fewestCut 0 = .ok (.aload_n 1, 1) := by decide +kernel
theorem dX5_fewestCut_1 : decode cX5_fewestCut 1 = .ok (.aload_n 1, 1) := by decide +kernel
theorem dX5_fewestCut_2 : decode cX5_fewestCut 2 = .ok (.getfield 82, 3) := by decide +kernel
theorem dX5_fewestCut_5 : decode cX5_fewestCut 5 = .ok (.iconst 1, 1) := by decide +kernel
theorem dX5_fewestCut_6 : decode cX5_fewestCut 6 = .ok (.invokevirtual 85, 3) := by decide +kernel
theorem dX5_fewestCut_9 : decode cX5_fewestCut 9 = .ok (.aload_n 1, 1) := by decide +kernel
theorem dX5_fewestCut_10 : decode cX5_fewestCut 10 = .ok (.getfield 60, 3) := by decide +kernel
theorem dX5_fewestCut_13 : decode cX5_fewestCut 13 = .ok (.invokestatic 67, 3) := by decide +kernel
theorem dX5_fewestCut_16 : decode cX5_fewestCut 16 = .ok (.ifCond .eq 6, 3) := by decide +kernel
theorem dX5_fewestCut_19 : decode cX5_fewestCut 19 = .ok (.bipush (-6), 2) := by decide +kernel
theorem dX5_fewestCut_21 : decode cX5_fewestCut 21 = .ok (.ireturn, 1) := by decide +kernel
theorem dX5_fewestCut_22 : decode cX5_fewestCut 22 = .ok (.iconst 0, 1) := by decide +kernel
theorem dX5_fewestCut_23 : decode cX5_fewestCut 23 = .ok (.istore_n 2, 1) := by decide +kernel
theorem dX5_fewestCut_24 : decode cX5_fewestCut 24 = .ok (.iload_n 2, 1) := by decide +kernel
theorem dX5_fewestCut_25 : decode cX5_fewestCut 25 = .ok (.iconst 4, 1) := by decide +kernel
theorem dX5_fewestCut_26 : decode cX5_fewestCut 26 = .ok (.if_icmp .gt 26, 3) := by decide +kernel
theorem dX5_fewestCut_29 : decode cX5_fewestCut 29 = .ok (.aload_n 1, 1) := by decide +kernel
theorem dX5_fewestCut_30 : decode cX5_fewestCut 30 = .ok (.iconst 0, 1) := by decide +kernel
theorem dX5_fewestCut_31 : decode cX5_fewestCut 31 = .ok (.bipush 16, 2) := by decide +kernel
theorem dX5_fewestCut_33 : decode cX5_fewestCut 33 = .ok (.iload_n 2, 1) := by decide +kernel
theorem dX5_fewestCut_34 : decode cX5_fewestCut 34 = .ok (.invokestatic 88, 3) := by decide +kernel
theorem dX5_fewestCut_37 : decode cX5_fewestCut 37 = .ok (.istore_n 3, 1) := by decide +kernel
theorem dX5_fewestCut_38 : decode cX5_fewestCut 38 = .ok (.iload_n 3, 1) := by decide +kernel
theorem dX5_fewestCut_39 : decode cX5_fewestCut 39 = .ok (.bipush (-6), 2) := by decide +kernel
theorem dX5_fewestCut_41 : decode cX5_fewestCut 41 = .ok (.if_icmp .eq 5, 3) := by decide +kernel
theorem dX5_fewestCut_44 : decode cX5_fewestCut 44 = .ok (.iload_n 3, 1) := by decide +kernel
theorem dX5_fewestCut_45 : decode cX5_fewestCut 45 = .ok (.ireturn, 1) := by decide +kernel
theorem dX5_fewestCut_46 : decode cX5_fewestCut 46 = .ok (.iinc 2 1, 3) := by decide +kernel
theorem dX5_fewestCut_49 : decode cX5_fewestCut 49 = .ok (.goto (-25), 3) := by decide +kernel
theorem dX5_fewestCut_52 : decode cX5_fewestCut 52 = .ok (.bipush (-6), 2) := by decide +kernel
theorem dX5_fewestCut_54 : decode cX5_fewestCut 54 = .ok (.ireturn, 1) := by decide +kernel
set_option maxRecDepth 20000 in
theorem ggX5_firstCut_X5_isCut : GoodIn wsX5_firstCut wsX5_isCut := goodIn_r _ [6, 1, 2, 7, 8, 9, 10, 11, 12, 13, 14, 15, 16, 17, 18, 19, 20, 21, 22, 23, 24, 25, 26, 27, 28, 29, 32, 33, 34, 35, 36, 37, 38, 39, 40, 41, 42, 43, 44] (by decide +kernel) (by decide +kernel)
set_option maxRecDepth 20000 in
theorem gX5_firstCut_X5_isCut : GoodIn wsX5_firstCut (va_wsS RX5 91 yX5_isCut wsX5_isCut) := goodIn_app (goodIn_of _ (by decide +kernel)) ggX5_firstCut_X5_isCut
set_option maxRecDepth 20000 in
theorem ggX5_firstCut_X0_open : GoodIn wsX5_firstCut wsX0_open := goodIn_r _ [11, 12, 13, 32, 33, 34, 35, 36, 37, 38, 39, 40, 41, 42, 43, 44] (by decide +kernel) (by decide +kernel)
set_option maxRecDepth 20000 in
theorem gX5_firstCut_X0_open : GoodIn wsX5_firstCut (wsV RX5 43 RX0 yX0_open wsX0_open) := goodIn_app (goodIn_of _ (by decide +kernel)) ggX5_firstCut_X0_open
set_option maxRecDepth 20000 in
theorem ggX5_firstCut_X8_bit : GoodIn wsX5_firstCut wsX8_bit := goodIn_r _ [16] (by decide +kernel) (by decide +kernel)
set_option maxRecDepth 20000 in
theorem gX5_firstCut_X8_bit_n71 : GoodIn wsX5_firstCut (wsX8_bit) := ggX5_firstCut_X8_bit
set_option maxRecDepth 20000 in
theorem ggX5_firstCut_X8_has : GoodIn wsX5_firstCut wsX8_has := goodIn_r _ [18] (by decide +kernel) (by decide +kernel)
set_option maxRecDepth 20000 in
theorem gX5_firstCut_X8_has_n67 : GoodIn wsX5_firstCut (wsX8_has) := ggX5_firstCut_X8_has
set_option maxRecDepth 20000 in
theorem ggX5_firstCut_X5_firstCut : GoodIn wsX5_firstCut wsX5_firstCut := goodIn_r _ [0, 1, 2, 3, 4, 5, 6, 7, 8, 9, 10, 11, 12, 13, 14, 15, 16, 17, 18, 19, 20, 21, 22, 23, 24, 25, 26, 27, 28, 29, 30, 31, 32, 33, 34, 35, 36, 37, 38, 39, 40, 41, 42, 43, 44] (by decide +kernel) (by decide +kernel)
set_option maxRecDepth 20000 in
theorem gX5_firstCut_X5_firstCut : GoodIn wsX5_firstCut (va_wsS RX5 88 yX5_firstCut wsX5_firstCut) := goodIn_app (goodIn_of _ (by decide +kernel)) ggX5_firstCut_X5_firstCut
theorem dX5_firstCut_0 : decode cX5_firstCut 0 = .ok (.iload_n 3, 1) := by decide +kernel
theorem dX5_firstCut_1 : decode cX5_firstCut 1 = .ok (.ifCond .gt 18, 3) := by decide +kernel
theorem dX5_firstCut_4 : decode cX5_firstCut 4 = .ok (.aload_n 0, 1) := by decide +kernel
theorem dX5_firstCut_5 : decode cX5_firstCut 5 = .ok (.iload_n 1, 1) := by decide +kernel
theorem dX5_firstCut_6 : decode cX5_firstCut 6 = .ok (.invokestatic 91, 3) := by decide +kernel
theorem dX5_firstCut_9 : decode cX5_firstCut 9 = .ok (.ifCond .eq 7, 3) := by decide +kernel
theorem dX5_firstCut_12 : decode cX5_firstCut 12 = .ok (.iload_n 1, 1) := by decide +kernel
theorem dX5_firstCut_13 : decode cX5_firstCut 13 = .ok (.goto 5, 3) := by decide +kernel
theorem dX5_firstCut_16 : decode cX5_firstCut 16 = .ok (.bipush (-6), 2) := by decide +kernel
theorem dX5_firstCut_18 : decode cX5_firstCut 18 = .ok (.ireturn, 1) := by decide +kernel
theorem dX5_firstCut_19 : decode cX5_firstCut 19 = .ok (.aload_n 0, 1) := by decide +kernel
theorem dX5_firstCut_20 : decode cX5_firstCut 20 = .ok (.invokevirtual 43, 3) := by decide +kernel
theorem dX5_firstCut_23 : decode cX5_firstCut 23 = .ok (.aload_n 0, 1) := by decide +kernel
theorem dX5_firstCut_24 : decode cX5_firstCut 24 = .ok (.getfield 82, 3) := by decide +kernel
theorem dX5_firstCut_27 : decode cX5_firstCut 27 = .ok (.invokestatic 71, 3) := by decide +kernel
theorem dX5_firstCut_30 : decode cX5_firstCut 30 = .ok (.iconst (-1), 1) := by decide +kernel
theorem dX5_firstCut_31 : decode cX5_firstCut 31 = .ok (.ixor, 1) := by decide +kernel
theorem dX5_firstCut_32 : decode cX5_firstCut 32 = .ok (.iand, 1) := by decide +kernel
theorem dX5_firstCut_33 : decode cX5_firstCut 33 = .ok (.aload_n 0, 1) := by decide +kernel
theorem dX5_firstCut_34 : decode cX5_firstCut 34 = .ok (.getfield 60, 3) := by decide +kernel
theorem dX5_firstCut_37 : decode cX5_firstCut 37 = .ok (.invokestatic 71, 3) := by decide +kernel
theorem dX5_firstCut_40 : decode cX5_firstCut 40 = .ok (.iconst (-1), 1) := by decide +kernel
theorem dX5_firstCut_41 : decode cX5_firstCut 41 = .ok (.ixor, 1) := by decide +kernel
theorem dX5_firstCut_42 : decode cX5_firstCut 42 = .ok (.iand, 1) := by decide +kernel
theorem dX5_firstCut_43 : decode cX5_firstCut 43 = .ok (.istore 4, 2) := by decide +kernel
theorem dX5_firstCut_45 : decode cX5_firstCut 45 = .ok (.iload_n 3, 1) := by decide +kernel
theorem dX5_firstCut_46 : decode cX5_firstCut 46 = .ok (.iconst 1, 1) := by decide +kernel
theorem dX5_firstCut_47 : decode cX5_firstCut 47 = .ok (.isub, 1) := by decide +kernel
theorem dX5_firstCut_48 : decode cX5_firstCut 48 = .ok (.istore 5, 2) := by decide +kernel
theorem dX5_firstCut_50 : decode cX5_firstCut 50 = .ok (.iload 5, 2) := by decide +kernel
theorem dX5_firstCut_52 : decode cX5_firstCut 52 = .ok (.iload_n 2, 1) := by decide +kernel
theorem dX5_firstCut_53 : decode cX5_firstCut 53 = .ok (.if_icmp .ge 52, 3) := by decide +kernel
theorem dX5_firstCut_56 : decode cX5_firstCut 56 = .ok (.iload 4, 2) := by decide +kernel
theorem dX5_firstCut_58 : decode cX5_firstCut 58 = .ok (.iload 5, 2) := by decide +kernel
theorem dX5_firstCut_60 : decode cX5_firstCut 60 = .ok (.invokestatic 67, 3) := by decide +kernel
theorem dX5_firstCut_63 : decode cX5_firstCut 63 = .ok (.ifCond .eq 22, 3) := by decide +kernel
theorem dX5_firstCut_66 : decode cX5_firstCut 66 = .ok (.aload_n 0, 1) := by decide +kernel
theorem dX5_firstCut_67 : decode cX5_firstCut 67 = .ok (.iload_n 1, 1) := by decide +kernel
theorem dX5_firstCut_68 : decode cX5_firstCut 68 = .ok (.iload 5, 2) := by decide +kernel
theorem dX5_firstCut_70 : decode cX5_firstCut 70 = .ok (.invokestatic 71, 3) := by decide +kernel
theorem dX5_firstCut_73 : decode cX5_firstCut 73 = .ok (.ior, 1) := by decide +kernel
theorem dX5_firstCut_74 : decode cX5_firstCut 74 = .ok (.iload 5, 2) := by decide +kernel
theorem dX5_firstCut_76 : decode cX5_firstCut 76 = .ok (.iload_n 3, 1) := by decide +kernel
theorem dX5_firstCut_77 : decode cX5_firstCut 77 = .ok (.iconst 1, 1) := by decide +kernel
theorem dX5_firstCut_78 : decode cX5_firstCut 78 = .ok (.isub, 1) := by decide +kernel
theorem dX5_firstCut_79 : decode cX5_firstCut 79 = .ok (.invokestatic 88, 3) := by decide +kernel
theorem dX5_firstCut_82 : decode cX5_firstCut 82 = .ok (.goto 5, 3) := by decide +kernel
theorem dX5_firstCut_85 : decode cX5_firstCut 85 = .ok (.bipush (-6), 2) := by decide +kernel
theorem dX5_firstCut_87 : decode cX5_firstCut 87 = .ok (.istore 6, 2) := by decide +kernel
theorem dX5_firstCut_89 : decode cX5_firstCut 89 = .ok (.iload 6, 2) := by decide +kernel
theorem dX5_firstCut_91 : decode cX5_firstCut 91 = .ok (.bipush (-6), 2) := by decide +kernel
theorem dX5_firstCut_93 : decode cX5_firstCut 93 = .ok (.if_icmp .eq 6, 3) := by decide +kernel
theorem dX5_firstCut_96 : decode cX5_firstCut 96 = .ok (.iload 6, 2) := by decide +kernel
theorem dX5_firstCut_98 : decode cX5_firstCut 98 = .ok (.ireturn, 1) := by decide +kernel
theorem dX5_firstCut_99 : decode cX5_firstCut 99 = .ok (.iinc 5 1, 3) := by decide +kernel
theorem dX5_firstCut_102 : decode cX5_firstCut 102 = .ok (.goto (-52), 3) := by decide +kernel
theorem dX5_firstCut_105 : decode cX5_firstCut 105 = .ok (.bipush (-6), 2) := by decide +kernel
theorem dX5_firstCut_107 : decode cX5_firstCut 107 = .ok (.ireturn, 1) := by decide +kernel
set_option maxRecDepth 20000 in
theorem ggX5_isCut_X0_open : GoodIn wsX5_isCut wsX0_open := goodIn_r _ [7, 8, 9, 26, 27, 28, 29, 30, 31, 32, 33, 34, 35, 36, 37, 38] (by decide +kernel) (by decide +kernel)
set_option maxRecDepth 20000 in
theorem gX5_isCut_X0_open : GoodIn wsX5_isCut (wsV RX5 43 RX0 yX0_open wsX0_open) := goodIn_app (goodIn_of _ (by decide +kernel)) ggX5_isCut_X0_open
set_option maxRecDepth 20000 in
theorem ggX5_isCut_X8_bit : GoodIn wsX5_isCut wsX8_bit := goodIn_r _ [12] (by decide +kernel) (by decide +kernel)
set_option maxRecDepth 20000 in
theorem gX5_isCut_X8_bit_n71 : GoodIn wsX5_isCut (wsX8_bit) := ggX5_isCut_X8_bit
set_option maxRecDepth 20000 in
theorem ggX5_isCut_X8_has : GoodIn wsX5_isCut wsX8_has := goodIn_r _ [14] (by decide +kernel) (by decide +kernel)
set_option maxRecDepth 20000 in
theorem gX5_isCut_X8_has_n67 : GoodIn wsX5_isCut (wsX8_has) := ggX5_isCut_X8_has
set_option maxRecDepth 20000 in
theorem ggX5_isCut_X0_spread : GoodIn wsX5_isCut wsX0_spread := goodIn_r _ [18, 19, 20, 21, 6, 22, 23, 24, 8, 25, 26, 27, 28, 29, 30, 31, 32, 33, 34, 35, 36, 37, 38] (by decide +kernel) (by decide +kernel)
set_option maxRecDepth 20000 in
theorem gX5_isCut_X0_spread : GoodIn wsX5_isCut (wsV RX5 18 RX0 yX0_spread wsX0_spread) := goodIn_app (goodIn_of _ (by decide +kernel)) ggX5_isCut_X0_spread
theorem dX5_isCut_0 : decode cX5_isCut 0 = .ok (.aload_n 0, 1) := by decide +kernel
theorem dX5_isCut_1 : decode cX5_isCut 1 = .ok (.invokevirtual 43, 3) := by decide +kernel
theorem dX5_isCut_4 : decode cX5_isCut 4 = .ok (.iload_n 1, 1) := by decide +kernel
theorem dX5_isCut_5 : decode cX5_isCut 5 = .ok (.iconst (-1), 1) := by decide +kernel
theorem dX5_isCut_6 : decode cX5_isCut 6 = .ok (.ixor, 1) := by decide +kernel
theorem dX5_isCut_7 : decode cX5_isCut 7 = .ok (.iand, 1) := by decide +kernel
theorem dX5_isCut_8 : decode cX5_isCut 8 = .ok (.istore_n 2, 1) := by decide +kernel
theorem dX5_isCut_9 : decode cX5_isCut 9 = .ok (.aload_n 0, 1) := by decide +kernel
theorem dX5_isCut_10 : decode cX5_isCut 10 = .ok (.getfield 82, 3) := by decide +kernel
theorem dX5_isCut_13 : decode cX5_isCut 13 = .ok (.invokestatic 71, 3) := by decide +kernel
theorem dX5_isCut_16 : decode cX5_isCut 16 = .ok (.istore_n 3, 1) := by decide +kernel
theorem dX5_isCut_17 : decode cX5_isCut 17 = .ok (.iconst 0, 1) := by decide +kernel
theorem dX5_isCut_18 : decode cX5_isCut 18 = .ok (.istore 4, 2) := by decide +kernel
theorem dX5_isCut_20 : decode cX5_isCut 20 = .ok (.iload 4, 2) := by decide +kernel
theorem dX5_isCut_22 : decode cX5_isCut 22 = .ok (.bipush 16, 2) := by decide +kernel
theorem dX5_isCut_24 : decode cX5_isCut 24 = .ok (.if_icmp .ge 40, 3) := by decide +kernel
theorem dX5_isCut_27 : decode cX5_isCut 27 = .ok (.iload_n 3, 1) := by decide +kernel
theorem dX5_isCut_28 : decode cX5_isCut 28 = .ok (.aload_n 0, 1) := by decide +kernel
theorem dX5_isCut_29 : decode cX5_isCut 29 = .ok (.getfield 60, 3) := by decide +kernel
theorem dX5_isCut_32 : decode cX5_isCut 32 = .ok (.invokestatic 67, 3) := by decide +kernel
theorem dX5_isCut_35 : decode cX5_isCut 35 = .ok (.ifCond .ne 29, 3) := by decide +kernel
theorem dX5_isCut_38 : decode cX5_isCut 38 = .ok (.aload_n 0, 1) := by decide +kernel
theorem dX5_isCut_39 : decode cX5_isCut 39 = .ok (.iload_n 3, 1) := by decide +kernel
theorem dX5_isCut_40 : decode cX5_isCut 40 = .ok (.invokevirtual 18, 3) := by decide +kernel
theorem dX5_isCut_43 : decode cX5_isCut 43 = .ok (.iload_n 2, 1) := by decide +kernel
theorem dX5_isCut_44 : decode cX5_isCut 44 = .ok (.iand, 1) := by decide +kernel
theorem dX5_isCut_45 : decode cX5_isCut 45 = .ok (.istore 5, 2) := by decide +kernel
theorem dX5_isCut_47 : decode cX5_isCut 47 = .ok (.iload 5, 2) := by decide +kernel
theorem dX5_isCut_49 : decode cX5_isCut 49 = .ok (.iload_n 3, 1) := by decide +kernel
theorem dX5_isCut_50 : decode cX5_isCut 50 = .ok (.if_icmp .ne 5, 3) := by decide +kernel
theorem dX5_isCut_53 : decode cX5_isCut 53 = .ok (.iconst 1, 1) := by decide +kernel
theorem dX5_isCut_54 : decode cX5_isCut 54 = .ok (.ireturn, 1) := by decide +kernel
theorem dX5_isCut_55 : decode cX5_isCut 55 = .ok (.iload 5, 2) := by decide +kernel
theorem dX5_isCut_57 : decode cX5_isCut 57 = .ok (.istore_n 3, 1) := by decide +kernel
theorem dX5_isCut_58 : decode cX5_isCut 58 = .ok (.iinc 4 1, 3) := by decide +kernel
theorem dX5_isCut_61 : decode cX5_isCut 61 = .ok (.goto (-41), 3) := by decide +kernel
theorem dX5_isCut_64 : decode cX5_isCut 64 = .ok (.iload_n 3, 1) := by decide +kernel
theorem dX5_isCut_65 : decode cX5_isCut 65 = .ok (.aload_n 0, 1) := by decide +kernel
theorem dX5_isCut_66 : decode cX5_isCut 66 = .ok (.getfield 60, 3) := by decide +kernel
theorem dX5_isCut_69 : decode cX5_isCut 69 = .ok (.invokestatic 67, 3) := by decide +kernel
theorem dX5_isCut_72 : decode cX5_isCut 72 = .ok (.ifCond .ne 7, 3) := by decide +kernel
theorem dX5_isCut_75 : decode cX5_isCut 75 = .ok (.iconst 1, 1) := by decide +kernel
theorem dX5_isCut_76 : decode cX5_isCut 76 = .ok (.goto 4, 3) := by decide +kernel
theorem dX5_isCut_79 : decode cX5_isCut 79 = .ok (.iconst 0, 1) := by decide +kernel
theorem dX5_isCut_80 : decode cX5_isCut 80 = .ok (.ireturn, 1) := by decide +kernel
theorem dX6_init_0 : decode cX6_init 0 = .ok (.aload_n 0, 1) := by decide +kernel
theorem dX6_init_1 : decode cX6_init 1 = .ok (.invokespecial 3, 3) := by decide +kernel
theorem dX6_init_4 : decode cX6_init 4 = .ok (.aload_n 0, 1) := by decide +kernel
theorem dX6_init_5 : decode cX6_init 5 = .ok (.iconst 4, 1) := by decide +kernel
theorem dX6_init_6 : decode cX6_init 6 = .ok (.newarray .int, 2) := by decide +kernel
theorem dX6_init_8 : decode cX6_init 8 = .ok (.putfield 9, 3) := by decide +kernel
theorem dX6_init_11 : decode cX6_init 11 = .ok (.aload_n 0, 1) := by decide +kernel
theorem dX6_init_12 : decode cX6_init 12 = .ok (.iconst 4, 1) := by decide +kernel
theorem dX6_init_13 : decode cX6_init 13 = .ok (.newarray .int, 2) := by decide +kernel
theorem dX6_init_15 : decode cX6_init 15 = .ok (.putfield 15, 3) := by decide +kernel
theorem dX6_init_18 : decode cX6_init 18 = .ok (.aload_n 0, 1) := by decide +kernel
theorem dX6_init_19 : decode cX6_init 19 = .ok (.iconst 4, 1) := by decide +kernel
theorem dX6_init_20 : decode cX6_init 20 = .ok (.newarray .int, 2) := by decide +kernel
theorem dX6_init_22 : decode cX6_init 22 = .ok (.putfield 18, 3) := by decide +kernel
theorem dX6_init_25 : decode cX6_init 25 = .ok (.return_, 1) := by decide +kernel
set_option maxRecDepth 20000 in
theorem ggX6_begin_X8_bit : GoodIn wsX6_begin wsX8_bit := goodIn_r _ [13] (by decide +kernel) (by decide +kernel)
set_option maxRecDepth 20000 in
theorem gX6_begin_X8_bit_n27 : GoodIn wsX6_begin (wsX8_bit) := ggX6_begin_X8_bit
set_option maxRecDepth 20000 in
theorem ggX6_begin_X4_cellOfOne : GoodIn wsX6_begin wsX4_cellOfOne := goodIn_r _ [18, 19, 20, 12, 21, 81, 82, 83, 84] (by decide +kernel) (by decide +kernel)
set_option maxRecDepth 20000 in
theorem gX6_begin_X4_cellOfOne : GoodIn wsX6_begin (wsV RX6 50 RX4 yX4_cellOfOne wsX4_cellOfOne) := goodIn_app (goodIn_of _ (by decide +kernel)) ggX6_begin_X4_cellOfOne
set_option maxRecDepth 20000 in
theorem ggX6_begin_X0_seenBy : GoodIn wsX6_begin wsX0_seenBy := goodIn_r _ [26, 27, 28, 15, 16, 17, 18, 19, 20, 12, 21, 29, 30, 31, 32, 33, 34, 35, 36, 25, 37, 38, 11, 13, 39, 40, 41, 42, 43, 44, 45, 46, 62, 63, 64, 65, 66, 67, 68, 69, 70, 71, 72, 73, 74, 81, 82, 83, 84] (by decide +kernel) (by decide +kernel)
set_option maxRecDepth 20000 in
theorem gX6_begin_X0_seenBy : GoodIn wsX6_begin (wsV RX6 53 RX0 yX0_seenBy wsX0_seenBy) := goodIn_app (goodIn_of _ (by decide +kernel)) ggX6_begin_X0_seenBy
set_option maxRecDepth 20000 in
theorem ggX6_begin_X8_put : GoodIn wsX6_begin wsX8_put := goodIn_r _ [48] (by decide +kernel) (by decide +kernel)
set_option maxRecDepth 20000 in
theorem gX6_begin_X8_put_n56 : GoodIn wsX6_begin (wsX8_put) := ggX6_begin_X8_put
set_option maxRecDepth 20000 in
theorem ggX6_begin_X0_around : GoodIn wsX6_begin wsX0_around := goodIn_r _ [52, 11, 12, 13, 53, 54, 55, 25, 56, 39, 40, 41, 42, 43, 44, 45, 46, 62, 63, 64, 65, 66, 67, 68, 69, 70, 71, 72, 73, 74] (by decide +kernel) (by decide +kernel)
set_option maxRecDepth 20000 in
theorem gX6_begin_X0_around : GoodIn wsX6_begin (wsV RX6 63 RX0 yX0_around wsX0_around) := goodIn_app (goodIn_of _ (by decide +kernel)) ggX6_begin_X0_around
set_option maxRecDepth 20000 in
theorem ggX6_begin_X4_hasDog : GoodIn wsX6_begin wsX4_hasDog := goodIn_r _ [60, 61, 20, 12, 21, 81, 82, 83, 84] (by decide +kernel) (by decide +kernel)
set_option maxRecDepth 20000 in
theorem gX6_begin_X4_hasDog : GoodIn wsX6_begin (wsV RX6 67 RX4 yX4_hasDog wsX4_hasDog) := goodIn_app (goodIn_of _ (by decide +kernel)) ggX6_begin_X4_hasDog
theorem dX6_begin_0 : decode cX6_begin 0 = .ok (.aload_n 0, 1) := by decide +kernel
theorem dX6_begin_1 : decode cX6_begin 1 = .ok (.aload_n 1, 1) := by decide +kernel
theorem dX6_begin_2 : decode cX6_begin 2 = .ok (.getfield 21, 3) := by decide +kernel
theorem dX6_begin_5 : decode cX6_begin 5 = .ok (.invokestatic 27, 3) := by decide +kernel
theorem dX6_begin_8 : decode cX6_begin 8 = .ok (.putfield 31, 3) := by decide +kernel
theorem dX6_begin_11 : decode cX6_begin 11 = .ok (.aload_n 0, 1) := by decide +kernel
theorem dX6_begin_12 : decode cX6_begin 12 = .ok (.aload_n 0, 1) := by decide +kernel
theorem dX6_begin_13 : decode cX6_begin 13 = .ok (.getfield 31, 3) := by decide +kernel
theorem dX6_begin_16 : decode cX6_begin 16 = .ok (.putfield 34, 3) := by decide +kernel
theorem dX6_begin_19 : decode cX6_begin 19 = .ok (.aload_n 0, 1) := by decide +kernel
theorem dX6_begin_20 : decode cX6_begin 20 = .ok (.iconst 0, 1) := by decide +kernel
theorem dX6_begin_21 : decode cX6_begin 21 = .ok (.putfield 37, 3) := by decide +kernel
theorem dX6_begin_24 : decode cX6_begin 24 = .ok (.iconst 0, 1) := by decide +kernel
theorem dX6_begin_25 : decode cX6_begin 25 = .ok (.istore_n 2, 1) := by decide +kernel
theorem dX6_begin_26 : decode cX6_begin 26 = .ok (.iload_n 2, 1) := by decide +kernel
theorem dX6_begin_27 : decode cX6_begin 27 = .ok (.aload_n 1, 1) := by decide +kernel
theorem dX6_begin_28 : decode cX6_begin 28 = .ok (.getfield 41, 3) := by decide +kernel
theorem dX6_begin_31 : decode cX6_begin 31 = .ok (.getfield 45, 3) := by decide +kernel
theorem dX6_begin_34 : decode cX6_begin 34 = .ok (.if_icmp .ge 77, 3) := by decide +kernel
theorem dX6_begin_37 : decode cX6_begin 37 = .ok (.aload_n 1, 1) := by decide +kernel
theorem dX6_begin_38 : decode cX6_begin 38 = .ok (.getfield 41, 3) := by decide +kernel
theorem dX6_begin_41 : decode cX6_begin 41 = .ok (.iload_n 2, 1) := by decide +kernel
theorem dX6_begin_42 : decode cX6_begin 42 = .ok (.invokevirtual 50, 3) := by decide +kernel
theorem dX6_begin_45 : decode cX6_begin 45 = .ok (.istore_n 3, 1) := by decide +kernel
theorem dX6_begin_46 : decode cX6_begin 46 = .ok (.aload_n 0, 1) := by decide +kernel
theorem dX6_begin_47 : decode cX6_begin 47 = .ok (.getfield 9, 3) := by decide +kernel
theorem dX6_begin_50 : decode cX6_begin 50 = .ok (.iload_n 2, 1) := by decide +kernel
theorem dX6_begin_51 : decode cX6_begin 51 = .ok (.aload_n 1, 1) := by decide +kernel
theorem dX6_begin_52 : decode cX6_begin 52 = .ok (.iload_n 2, 1) := by decide +kernel
theorem dX6_begin_53 : decode cX6_begin 53 = .ok (.invokevirtual 53, 3) := by decide +kernel
theorem dX6_begin_56 : decode cX6_begin 56 = .ok (.invokestatic 56, 3) := by decide +kernel
theorem dX6_begin_59 : decode cX6_begin 59 = .ok (.aload_n 0, 1) := by decide +kernel
theorem dX6_begin_60 : decode cX6_begin 60 = .ok (.getfield 15, 3) := by decide +kernel
theorem dX6_begin_63 : decode cX6_begin 63 = .ok (.iload_n 2, 1) := by decide +kernel
theorem dX6_begin_64 : decode cX6_begin 64 = .ok (.aload_n 1, 1) := by decide +kernel
theorem dX6_begin_65 : decode cX6_begin 65 = .ok (.iload_n 3, 1) := by decide +kernel
theorem dX6_begin_66 : decode cX6_begin 66 = .ok (.aload_n 1, 1) := by decide +kernel
theorem dX6_begin_67 : decode cX6_begin 67 = .ok (.getfield 60, 3) := by decide +kernel
theorem dX6_begin_70 : decode cX6_begin 70 = .ok (.invokevirtual 63, 3) := by decide +kernel
theorem dX6_begin_73 : decode cX6_begin 73 = .ok (.invokestatic 56, 3) := by decide +kernel
theorem dX6_begin_76 : decode cX6_begin 76 = .ok (.aload_n 0, 1) := by decide +kernel
theorem dX6_begin_77 : decode cX6_begin 77 = .ok (.getfield 18, 3) := by decide +kernel
theorem dX6_begin_80 : decode cX6_begin 80 = .ok (.iload_n 2, 1) := by decide +kernel
theorem dX6_begin_81 : decode cX6_begin 81 = .ok (.aload_n 1, 1) := by decide +kernel
theorem dX6_begin_82 : decode cX6_begin 82 = .ok (.getfield 41, 3) := by decide +kernel
theorem dX6_begin_85 : decode cX6_begin 85 = .ok (.iload_n 2, 1) := by decide +kernel
theorem dX6_begin_86 : decode cX6_begin 86 = .ok (.invokevirtual 67, 3) := by decide +kernel
theorem dX6_begin_89 : decode cX6_begin 89 = .ok (.ifCond .eq 12, 3) := by decide +kernel
theorem dX6_begin_92 : decode cX6_begin 92 = .ok (.aload_n 1, 1) := by decide +kernel
theorem dX6_begin_93 : decode cX6_begin 93 = .ok (.iload_n 3, 1) := by decide +kernel
theorem dX6_begin_94 : decode cX6_begin 94 = .ok (.iconst 1, 1) := by decide +kernel
theorem dX6_begin_95 : decode cX6_begin 95 = .ok (.invokevirtual 63, 3) := by decide +kernel
theorem dX6_begin_98 : decode cX6_begin 98 = .ok (.goto 4, 3) := by decide +kernel
theorem dX6_begin_101 : decode cX6_begin 101 = .ok (.iconst 0, 1) := by decide +kernel
theorem dX6_begin_102 : decode cX6_begin 102 = .ok (.invokestatic 56, 3) := by decide +kernel
theorem dX6_begin_105 : decode cX6_begin 105 = .ok (.iinc 2 1, 3) := by decide +kernel
theorem dX6_begin_108 : decode cX6_begin 108 = .ok (.goto (-82), 3) := by decide +kernel
theorem dX6_begin_111 : decode cX6_begin 111 = .ok (.return_, 1) := by decide +kernel
set_option maxRecDepth 20000 in
theorem ggX6_take_X0_stepTo : GoodIn wsX6_take wsX0_stepTo := goodIn_r _ [8, 9, 10, 11, 7, 12, 13, 14, 15, 16, 17, 18, 19, 20, 21, 28, 29, 30, 31, 32, 33, 34, 35, 36, 37, 38, 39, 40] (by decide +kernel) (by decide +kernel)
set_option maxRecDepth 20000 in
theorem gX6_take_X0_stepTo : GoodIn wsX6_take (wsV RX6 71 RX0 yX0_stepTo wsX0_stepTo) := goodIn_app (goodIn_of _ (by decide +kernel)) ggX6_take_X0_stepTo
theorem dX6_take_0 : decode cX6_take 0 = .ok (.aload_n 1, 1) := by decide +kernel
theorem dX6_take_1 : decode cX6_take 1 = .ok (.aload_n 0, 1) := by decide +kernel
theorem dX6_take_2 : decode cX6_take 2 = .ok (.getfield 31, 3) := by decide +kernel
theorem dX6_take_5 : decode cX6_take 5 = .ok (.iload_n 2, 1) := by decide +kernel
theorem dX6_take_6 : decode cX6_take 6 = .ok (.invokevirtual 71, 3) := by decide +kernel
theorem dX6_take_9 : decode cX6_take 9 = .ok (.istore_n 3, 1) := by decide +kernel
theorem dX6_take_10 : decode cX6_take 10 = .ok (.aload_n 0, 1) := by decide +kernel
theorem dX6_take_11 : decode cX6_take 11 = .ok (.iload_n 3, 1) := by decide +kernel
theorem dX6_take_12 : decode cX6_take 12 = .ok (.ifCond .eq 12, 3) := by decide +kernel
theorem dX6_take_15 : decode cX6_take 15 = .ok (.iload_n 2, 1) := by decide +kernel
theorem dX6_take_16 : decode cX6_take 16 = .ok (.iconst 4, 1) := by decide +kernel
theorem dX6_take_17 : decode cX6_take 17 = .ok (.if_icmp .eq 7, 3) := by decide +kernel
theorem dX6_take_20 : decode cX6_take 20 = .ok (.iconst 1, 1) := by decide +kernel
theorem dX6_take_21 : decode cX6_take 21 = .ok (.goto 4, 3) := by decide +kernel
theorem dX6_take_24 : decode cX6_take 24 = .ok (.iconst 0, 1) := by decide +kernel
theorem dX6_take_25 : decode cX6_take 25 = .ok (.putfield 37, 3) := by decide +kernel
theorem dX6_take_28 : decode cX6_take 28 = .ok (.iload_n 3, 1) := by decide +kernel
theorem dX6_take_29 : decode cX6_take 29 = .ok (.ifCond .ne 5, 3) := by decide +kernel
theorem dX6_take_32 : decode cX6_take 32 = .ok (.iconst 0, 1) := by decide +kernel
theorem dX6_take_33 : decode cX6_take 33 = .ok (.ireturn, 1) := by decide +kernel
theorem dX6_take_34 : decode cX6_take 34 = .ok (.aload_n 0, 1) := by decide +kernel
theorem dX6_take_35 : decode cX6_take 35 = .ok (.iload_n 3, 1) := by decide +kernel
theorem dX6_take_36 : decode cX6_take 36 = .ok (.putfield 31, 3) := by decide +kernel
theorem dX6_take_39 : decode cX6_take 39 = .ok (.aload_n 0, 1) := by decide +kernel
theorem dX6_take_40 : decode cX6_take 40 = .ok (.dup, 1) := by decide +kernel
theorem dX6_take_41 : decode cX6_take 41 = .ok (.getfield 34, 3) := by decide +kernel
theorem dX6_take_44 : decode cX6_take 44 = .ok (.iload_n 3, 1) := by decide +kernel
theorem dX6_take_45 : decode cX6_take 45 = .ok (.ior, 1) := by decide +kernel
theorem dX6_take_46 : decode cX6_take 46 = .ok (.putfield 34, 3) := by decide +kernel
theorem dX6_take_49 : decode cX6_take 49 = .ok (.iconst 1, 1) := by decide +kernel
theorem dX6_take_50 : decode cX6_take 50 = .ok (.ireturn, 1) := by decide +kernel
set_option maxRecDepth 20000 in
theorem ggX6_firstShownTo_X6_reasonTo : GoodIn wsX6_firstShownTo wsX6_reasonTo := goodIn_r _ [7, 8, 9, 10, 11, 12, 13, 14, 15, 16, 17, 18, 19, 37, 38, 39, 40, 41, 42, 20, 21, 22, 23, 24, 25, 26, 27, 28, 29, 30, 31, 32] (by decide +kernel) (by decide +kernel)
set_option maxRecDepth 20000 in
theorem gX6_firstShownTo_X6_reasonTo : GoodIn wsX6_firstShownTo (wsV RX6 74 RX6 yX6_reasonTo wsX6_reasonTo) := goodIn_app (goodIn_of _ (by decide +kernel)) ggX6_firstShownTo_X6_reasonTo
theorem dX6_firstShownTo_0 : decode cX6_firstShownTo 0 = .ok (.iconst 0, 1) := by decide +kernel
theorem dX6_firstShownTo_1 : decode cX6_firstShownTo 1 = .ok (.istore_n 3, 1) := by decide +kernel
theorem dX6_firstShownTo_2 : decode cX6_firstShownTo 2 = .ok (.iload_n 3, 1) := by decide +kernel
theorem dX6_firstShownTo_3 : decode cX6_firstShownTo 3 = .ok (.aload_n 1, 1) := by decide +kernel
theorem dX6_firstShownTo_4 : decode cX6_firstShownTo 4 = .ok (.getfield 41, 3) := by decide +kernel
theorem dX6_firstShownTo_7 : decode cX6_firstShownTo 7 = .ok (.getfield 45, 3) := by decide +kernel
theorem dX6_firstShownTo_10 : decode cX6_firstShownTo 10 = .ok (.if_icmp .ge 21, 3) := by decide +kernel
theorem dX6_firstShownTo_13 : decode cX6_firstShownTo 13 = .ok (.aload_n 0, 1) := by decide +kernel
theorem dX6_firstShownTo_14 : decode cX6_firstShownTo 14 = .ok (.aload_n 1, 1) := by decide +kernel
theorem dX6_firstShownTo_15 : decode cX6_firstShownTo 15 = .ok (.iload_n 3, 1) := by decide +kernel
theorem dX6_firstShownTo_16 : decode cX6_firstShownTo 16 = .ok (.iload_n 2, 1) := by decide +kernel
theorem dX6_firstShownTo_17 : decode cX6_firstShownTo 17 = .ok (.invokevirtual 74, 3) := by decide +kernel
theorem dX6_firstShownTo_20 : decode cX6_firstShownTo 20 = .ok (.ifCond .eq 5, 3) := by decide +kernel
theorem dX6_firstShownTo_23 : decode cX6_firstShownTo 23 = .ok (.iload_n 3, 1) := by decide +kernel
theorem dX6_firstShownTo_24 : decode cX6_firstShownTo 24 = .ok (.ireturn, 1) := by decide +kernel
theorem dX6_firstShownTo_25 : decode cX6_firstShownTo 25 = .ok (.iinc 3 1, 3) := by decide +kernel
theorem dX6_firstShownTo_28 : decode cX6_firstShownTo 28 = .ok (.goto (-26), 3) := by decide +kernel
theorem dX6_firstShownTo_31 : decode cX6_firstShownTo 31 = .ok (.bipush (-6), 2) := by decide +kernel
theorem dX6_firstShownTo_33 : decode cX6_firstShownTo 33 = .ok (.ireturn, 1) := by decide +kernel
set_option maxRecDepth 20000 in
theorem ggX6_reasonTo_X8_at : GoodIn wsX6_reasonTo wsX8_at := goodIn_r _ [12] (by decide +kernel) (by decide +kernel)
set_option maxRecDepth 20000 in
theorem gX6_reasonTo_X8_at_n81 : GoodIn wsX6_reasonTo (wsX8_at) := ggX6_reasonTo_X8_at
theorem dX6_reasonTo_0 : decode cX6_reasonTo 0 = .ok (.iload_n 3, 1) := by decide +kernel
theorem dX6_reasonTo_1 : decode cX6_reasonTo 1 = .ok (.ifCond .ne 33, 3) := by decide +kernel
theorem dX6_reasonTo_4 : decode cX6_reasonTo 4 = .ok (.aload_n 0, 1) := by decide +kernel
theorem dX6_reasonTo_5 : decode cX6_reasonTo 5 = .ok (.getfield 37, 3) := by decide +kernel
theorem dX6_reasonTo_8 : decode cX6_reasonTo 8 = .ok (.ifCond .eq 26, 3) := by decide +kernel
theorem dX6_reasonTo_11 : decode cX6_reasonTo 11 = .ok (.aload_n 0, 1) := by decide +kernel
theorem dX6_reasonTo_12 : decode cX6_reasonTo 12 = .ok (.getfield 31, 3) := by decide +kernel
theorem dX6_reasonTo_15 : decode cX6_reasonTo 15 = .ok (.aload_n 1, 1) := by decide +kernel
theorem dX6_reasonTo_16 : decode cX6_reasonTo 16 = .ok (.getfield 78, 3) := by decide +kernel
theorem dX6_reasonTo_19 : decode cX6_reasonTo 19 = .ok (.iand, 1) := by decide +kernel
theorem dX6_reasonTo_20 : decode cX6_reasonTo 20 = .ok (.aload_n 0, 1) := by decide +kernel
theorem dX6_reasonTo_21 : decode cX6_reasonTo 21 = .ok (.getfield 9, 3) := by decide +kernel
theorem dX6_reasonTo_24 : decode cX6_reasonTo 24 = .ok (.iload_n 2, 1) := by decide +kernel
theorem dX6_reasonTo_25 : decode cX6_reasonTo 25 = .ok (.invokestatic 81, 3) := by decide +kernel
theorem dX6_reasonTo_28 : decode cX6_reasonTo 28 = .ok (.iand, 1) := by decide +kernel
theorem dX6_reasonTo_29 : decode cX6_reasonTo 29 = .ok (.ifCond .eq 5, 3) := by decide +kernel
theorem dX6_reasonTo_32 : decode cX6_reasonTo 32 = .ok (.iconst 1, 1) := by decide +kernel
theorem dX6_reasonTo_33 : decode cX6_reasonTo 33 = .ok (.ireturn, 1) := by decide +kernel
theorem dX6_reasonTo_34 : decode cX6_reasonTo 34 = .ok (.aload_n 0, 1) := by decide +kernel
theorem dX6_reasonTo_35 : decode cX6_reasonTo 35 = .ok (.getfield 37, 3) := by decide +kernel
theorem dX6_reasonTo_38 : decode cX6_reasonTo 38 = .ok (.ifCond .eq 26, 3) := by decide +kernel
theorem dX6_reasonTo_41 : decode cX6_reasonTo 41 = .ok (.aload_n 0, 1) := by decide +kernel
theorem dX6_reasonTo_42 : decode cX6_reasonTo 42 = .ok (.getfield 31, 3) := by decide +kernel
theorem dX6_reasonTo_45 : decode cX6_reasonTo 45 = .ok (.aload_n 1, 1) := by decide +kernel
theorem dX6_reasonTo_46 : decode cX6_reasonTo 46 = .ok (.getfield 85, 3) := by decide +kernel
theorem dX6_reasonTo_49 : decode cX6_reasonTo 49 = .ok (.iand, 1) := by decide +kernel
theorem dX6_reasonTo_50 : decode cX6_reasonTo 50 = .ok (.aload_n 0, 1) := by decide +kernel
theorem dX6_reasonTo_51 : decode cX6_reasonTo 51 = .ok (.getfield 15, 3) := by decide +kernel
theorem dX6_reasonTo_54 : decode cX6_reasonTo 54 = .ok (.iload_n 2, 1) := by decide +kernel
theorem dX6_reasonTo_55 : decode cX6_reasonTo 55 = .ok (.invokestatic 81, 3) := by decide +kernel
theorem dX6_reasonTo_58 : decode cX6_reasonTo 58 = .ok (.iand, 1) := by decide +kernel
theorem dX6_reasonTo_59 : decode cX6_reasonTo 59 = .ok (.ifCond .eq 5, 3) := by decide +kernel
theorem dX6_reasonTo_62 : decode cX6_reasonTo 62 = .ok (.iconst 2, 1) := by decide +kernel
theorem dX6_reasonTo_63 : decode cX6_reasonTo 63 = .ok (.ireturn, 1) := by decide +kernel
theorem dX6_reasonTo_64 : decode cX6_reasonTo 64 = .ok (.aload_n 0, 1) := by decide +kernel
theorem dX6_reasonTo_65 : decode cX6_reasonTo 65 = .ok (.getfield 34, 3) := by decide +kernel
theorem dX6_reasonTo_68 : decode cX6_reasonTo 68 = .ok (.aload_n 1, 1) := by decide +kernel
theorem dX6_reasonTo_69 : decode cX6_reasonTo 69 = .ok (.getfield 88, 3) := by decide +kernel
theorem dX6_reasonTo_72 : decode cX6_reasonTo 72 = .ok (.iand, 1) := by decide +kernel
theorem dX6_reasonTo_73 : decode cX6_reasonTo 73 = .ok (.aload_n 0, 1) := by decide +kernel
theorem dX6_reasonTo_74 : decode cX6_reasonTo 74 = .ok (.getfield 9, 3) := by decide +kernel
theorem dX6_reasonTo_77 : decode cX6_reasonTo 77 = .ok (.iload_n 2, 1) := by decide +kernel
theorem dX6_reasonTo_78 : decode cX6_reasonTo 78 = .ok (.invokestatic 81, 3) := by decide +kernel
theorem dX6_reasonTo_81 : decode cX6_reasonTo 81 = .ok (.iand, 1) := by decide +kernel
theorem dX6_reasonTo_82 : decode cX6_reasonTo 82 = .ok (.ifCond .eq 5, 3) := by decide +kernel
theorem dX6_reasonTo_85 : decode cX6_reasonTo 85 = .ok (.iconst 3, 1) := by decide +kernel
theorem dX6_reasonTo_86 : decode cX6_reasonTo 86 = .ok (.ireturn, 1) := by decide +kernel
theorem dX6_reasonTo_87 : decode cX6_reasonTo 87 = .ok (.aload_n 0, 1) := by decide +kernel
theorem dX6_reasonTo_88 : decode cX6_reasonTo 88 = .ok (.getfield 31, 3) := by decide +kernel
theorem dX6_reasonTo_91 : decode cX6_reasonTo 91 = .ok (.aload_n 0, 1) := by decide +kernel
theorem dX6_reasonTo_92 : decode cX6_reasonTo 92 = .ok (.getfield 18, 3) := by decide +kernel
theorem dX6_reasonTo_95 : decode cX6_reasonTo 95 = .ok (.iload_n 2, 1) := by decide +kernel
theorem dX6_reasonTo_96 : decode cX6_reasonTo 96 = .ok (.invokestatic 81, 3) := by decide +kernel
theorem dX6_reasonTo_99 : decode cX6_reasonTo 99 = .ok (.iand, 1) := by decide +kernel
theorem dX6_reasonTo_100 : decode cX6_reasonTo 100 = .ok (.ifCond .eq 7, 3) := by decide +kernel
theorem dX6_reasonTo_103 : decode cX6_reasonTo 103 = .ok (.iconst 4, 1) := by decide +kernel
theorem dX6_reasonTo_104 : decode cX6_reasonTo 104 = .ok (.goto 4, 3) := by decide +kernel
theorem dX6_reasonTo_107 : decode cX6_reasonTo 107 = .ok (.iconst 0, 1) := by decide +kernel
theorem dX6_reasonTo_108 : decode cX6_reasonTo 108 = .ok (.ireturn, 1) := by decide +kernel
theorem dX7_init_0 : decode cX7_init 0 = .ok (.aload_n 0, 1) := by decide +kernel
theorem dX7_init_1 : decode cX7_init 1 = .ok (.invokespecial 3, 3) := by decide +kernel
theorem dX7_init_4 : decode cX7_init 4 = .ok (.aload_n 0, 1) := by decide +kernel
theorem dX7_init_5 : decode cX7_init 5 = .ok (.bipush 16, 2) := by decide +kernel
theorem dX7_init_7 : decode cX7_init 7 = .ok (.newarray .int, 2) := by decide +kernel
theorem dX7_init_9 : decode cX7_init 9 = .ok (.putfield 9, 3) := by decide +kernel
theorem dX7_init_12 : decode cX7_init 12 = .ok (.aload_n 0, 1) := by decide +kernel
theorem dX7_init_13 : decode cX7_init 13 = .ok (.bipush 16, 2) := by decide +kernel
theorem dX7_init_15 : decode cX7_init 15 = .ok (.newarray .int, 2) := by decide +kernel
theorem dX7_init_17 : decode cX7_init 17 = .ok (.putfield 15, 3) := by decide +kernel
theorem dX7_init_20 : decode cX7_init 20 = .ok (.return_, 1) := by decide +kernel
set_option maxRecDepth 20000 in
theorem ggX7_begin_J7_fill_53178 : GoodIn wsX7_begin wsJ7_fill_53178 := goodIn_r _ [5] (by decide +kernel) (by decide +kernel)
set_option maxRecDepth 20000 in
theorem gX7_begin_J7_fill_53178 : GoodIn wsX7_begin (va_wsS RX7 18 yJ7_fill_53178 wsJ7_fill_53178) := goodIn_app (goodIn_of _ (by decide +kernel)) ggX7_begin_J7_fill_53178
set_option maxRecDepth 20000 in
theorem ggX7_begin_X8_put : GoodIn wsX7_begin wsX8_put := goodIn_r _ [8] (by decide +kernel) (by decide +kernel)
set_option maxRecDepth 20000 in
theorem gX7_begin_X8_put_n24 : GoodIn wsX7_begin (wsX8_put) := ggX7_begin_X8_put
theorem dX7_begin_0 : decode cX7_begin 0 = .ok (.aload_n 0, 1) := by decide +kernel
theorem dX7_begin_1 : decode cX7_begin 1 = .ok (.getfield 9, 3) := by decide +kernel
theorem dX7_begin_4 : decode cX7_begin 4 = .ok (.iconst 0, 1) := by decide +kernel
theorem dX7_begin_5 : decode cX7_begin 5 = .ok (.invokestatic 18, 3) := by decide +kernel
theorem dX7_begin_8 : decode cX7_begin 8 = .ok (.aload_n 0, 1) := by decide +kernel
theorem dX7_begin_9 : decode cX7_begin 9 = .ok (.getfield 9, 3) := by decide +kernel
theorem dX7_begin_12 : decode cX7_begin 12 = .ok (.iload_n 1, 1) := by decide +kernel
theorem dX7_begin_13 : decode cX7_begin 13 = .ok (.iconst 1, 1) := by decide +kernel
theorem dX7_begin_14 : decode cX7_begin 14 = .ok (.invokestatic 24, 3) := by decide +kernel
theorem dX7_begin_17 : decode cX7_begin 17 = .ok (.return_, 1) := by decide +kernel
set_option maxRecDepth 20000 in
theorem ggX7_passMinute_X8_has : GoodIn wsX7_passMinute wsX8_has := goodIn_r _ [9] (by decide +kernel) (by decide +kernel)
set_option maxRecDepth 20000 in
theorem gX7_passMinute_X8_has_n34 : GoodIn wsX7_passMinute (wsX8_has) := ggX7_passMinute_X8_has
set_option maxRecDepth 20000 in
theorem ggX7_passMinute_X7_waysInto : GoodIn wsX7_passMinute wsX7_waysInto := goodIn_r _ [14, 2, 15, 8, 16, 17, 18, 19, 20, 21, 22, 23, 24, 25, 26, 27, 28, 29, 30, 31, 32, 33, 34, 35, 36, 37, 38, 39, 40, 41, 42, 43, 44, 45, 46, 47, 48, 49, 50, 51, 52, 53, 54, 55, 56, 57, 58, 59, 60] (by decide +kernel) (by decide +kernel)
set_option maxRecDepth 20000 in
theorem gX7_passMinute_X7_waysInto : GoodIn wsX7_passMinute (wsV RX7 38 RX7 yX7_waysInto wsX7_waysInto) := goodIn_app (goodIn_of _ (by decide +kernel)) ggX7_passMinute_X7_waysInto
theorem dX7_passMinute_0 : decode cX7_passMinute 0 = .ok (.aload_n 0, 1) := by decide +kernel
theorem dX7_passMinute_1 : decode cX7_passMinute 1 = .ok (.getfield 9, 3) := by decide +kernel
theorem dX7_passMinute_4 : decode cX7_passMinute 4 = .ok (.iconst 0, 1) := by decide +kernel
theorem dX7_passMinute_5 : decode cX7_passMinute 5 = .ok (.aload_n 0, 1) := by decide +kernel
theorem dX7_passMinute_6 : decode cX7_passMinute 6 = .ok (.getfield 15, 3) := by decide +kernel
theorem dX7_passMinute_9 : decode cX7_passMinute 9 = .ok (.iconst 0, 1) := by decide +kernel
theorem dX7_passMinute_10 : decode cX7_passMinute 10 = .ok (.bipush 16, 2) := by decide +kernel
theorem dX7_passMinute_12 : decode cX7_passMinute 12 = .ok (.invokestatic 28, 3) := by decide +kernel
theorem dX7_passMinute_15 : decode cX7_passMinute 15 = .ok (.iconst 0, 1) := by decide +kernel
theorem dX7_passMinute_16 : decode cX7_passMinute 16 = .ok (.istore_n 3, 1) := by decide +kernel
theorem dX7_passMinute_17 : decode cX7_passMinute 17 = .ok (.iload_n 3, 1) := by decide +kernel
theorem dX7_passMinute_18 : decode cX7_passMinute 18 = .ok (.aload_n 0, 1) := by decide +kernel
theorem dX7_passMinute_19 : decode cX7_passMinute 19 = .ok (.getfield 9, 3) := by decide +kernel
theorem dX7_passMinute_22 : decode cX7_passMinute 22 = .ok (.arraylength, 1) := by decide +kernel
theorem dX7_passMinute_23 : decode cX7_passMinute 23 = .ok (.if_icmp .ge 33, 3) := by decide +kernel
theorem dX7_passMinute_26 : decode cX7_passMinute 26 = .ok (.aload_n 0, 1) := by decide +kernel
theorem dX7_passMinute_27 : decode cX7_passMinute 27 = .ok (.getfield 9, 3) := by decide +kernel
theorem dX7_passMinute_30 : decode cX7_passMinute 30 = .ok (.iload_n 3, 1) := by decide +kernel
theorem dX7_passMinute_31 : decode cX7_passMinute 31 = .ok (.iload_n 2, 1) := by decide +kernel
theorem dX7_passMinute_32 : decode cX7_passMinute 32 = .ok (.iload_n 3, 1) := by decide +kernel
theorem dX7_passMinute_33 : decode cX7_passMinute 33 = .ok (.invokestatic 34, 3) := by decide +kernel
theorem dX7_passMinute_36 : decode cX7_passMinute 36 = .ok (.ifCond .eq 12, 3) := by decide +kernel
theorem dX7_passMinute_39 : decode cX7_passMinute 39 = .ok (.aload_n 0, 1) := by decide +kernel
theorem dX7_passMinute_40 : decode cX7_passMinute 40 = .ok (.aload_n 1, 1) := by decide +kernel
theorem dX7_passMinute_41 : decode cX7_passMinute 41 = .ok (.iload_n 3, 1) := by decide +kernel
theorem dX7_passMinute_42 : decode cX7_passMinute 42 = .ok (.invokevirtual 38, 3) := by decide +kernel
theorem dX7_passMinute_45 : decode cX7_passMinute 45 = .ok (.goto 4, 3) := by decide +kernel
theorem dX7_passMinute_48 : decode cX7_passMinute 48 = .ok (.iconst 0, 1) := by decide +kernel
theorem dX7_passMinute_49 : decode cX7_passMinute 49 = .ok (.iastore, 1) := by decide +kernel
theorem dX7_passMinute_50 : decode cX7_passMinute 50 = .ok (.iinc 3 1, 3) := by decide +kernel
theorem dX7_passMinute_53 : decode cX7_passMinute 53 = .ok (.goto (-36), 3) := by decide +kernel
theorem dX7_passMinute_56 : decode cX7_passMinute 56 = .ok (.return_, 1) := by decide +kernel
set_option maxRecDepth 20000 in
theorem ggX7_waysInto_X8_bit : GoodIn wsX7_waysInto wsX8_bit := goodIn_r _ [4] (by decide +kernel) (by decide +kernel)
set_option maxRecDepth 20000 in
theorem gX7_waysInto_X8_bit_n42 : GoodIn wsX7_waysInto (wsX8_bit) := ggX7_waysInto_X8_bit
set_option maxRecDepth 20000 in
theorem ggX7_waysInto_X0_stepTo : GoodIn wsX7_waysInto wsX0_stepTo := goodIn_r _ [9, 10, 11, 12, 8, 13, 14, 15, 16, 17, 18, 19, 20, 21, 22, 36, 37, 38, 39, 40, 41, 42, 43, 44, 45, 46, 47, 48] (by decide +kernel) (by decide +kernel)
set_option maxRecDepth 20000 in
theorem gX7_waysInto_X0_stepTo : GoodIn wsX7_waysInto (wsV RX7 46 RX0 yX0_stepTo wsX0_stepTo) := goodIn_app (goodIn_of _ (by decide +kernel)) ggX7_waysInto_X0_stepTo
set_option maxRecDepth 20000 in
theorem ggX7_waysInto_X8_cellOf : GoodIn wsX7_waysInto wsX8_cellOf := goodIn_r _ [24, 25, 26, 27, 28, 29, 30, 31] (by decide +kernel) (by decide +kernel)
set_option maxRecDepth 20000 in
theorem gX7_waysInto_X8_cellOf_n52 : GoodIn wsX7_waysInto (wsX8_cellOf) := ggX7_waysInto_X8_cellOf
set_option maxRecDepth 20000 in
theorem ggX7_waysInto_X8_at : GoodIn wsX7_waysInto wsX8_at := goodIn_r _ [33] (by decide +kernel) (by decide +kernel)
set_option maxRecDepth 20000 in
theorem gX7_waysInto_X8_at_n55 : GoodIn wsX7_waysInto (wsX8_at) := ggX7_waysInto_X8_at
theorem dX7_waysInto_0 : decode cX7_waysInto 0 = .ok (.iconst 0, 1) := by decide +kernel
theorem dX7_waysInto_1 : decode cX7_waysInto 1 = .ok (.istore_n 3, 1) := by decide +kernel
theorem dX7_waysInto_2 : decode cX7_waysInto 2 = .ok (.iconst 0, 1) := by decide +kernel
theorem dX7_waysInto_3 : decode cX7_waysInto 3 = .ok (.istore 4, 2) := by decide +kernel
theorem dX7_waysInto_5 : decode cX7_waysInto 5 = .ok (.iload 4, 2) := by decide +kernel
theorem dX7_waysInto_7 : decode cX7_waysInto 7 = .ok (.iconst 5, 1) := by decide +kernel
theorem dX7_waysInto_8 : decode cX7_waysInto 8 = .ok (.if_icmp .ge 45, 3) := by decide +kernel
theorem dX7_waysInto_11 : decode cX7_waysInto 11 = .ok (.aload_n 1, 1) := by decide +kernel
theorem dX7_waysInto_12 : decode cX7_waysInto 12 = .ok (.iload_n 2, 1) := by decide +kernel
theorem dX7_waysInto_13 : decode cX7_waysInto 13 = .ok (.invokestatic 42, 3) := by decide +kernel
theorem dX7_waysInto_16 : decode cX7_waysInto 16 = .ok (.iload 4, 2) := by decide +kernel
theorem dX7_waysInto_18 : decode cX7_waysInto 18 = .ok (.invokevirtual 46, 3) := by decide +kernel
theorem dX7_waysInto_21 : decode cX7_waysInto 21 = .ok (.istore 5, 2) := by decide +kernel
theorem dX7_waysInto_23 : decode cX7_waysInto 23 = .ok (.iload_n 3, 1) := by decide +kernel
theorem dX7_waysInto_24 : decode cX7_waysInto 24 = .ok (.iload 5, 2) := by decide +kernel
theorem dX7_waysInto_26 : decode cX7_waysInto 26 = .ok (.ifCond .ne 7, 3) := by decide +kernel
theorem dX7_waysInto_29 : decode cX7_waysInto 29 = .ok (.iconst 0, 1) := by decide +kernel
theorem dX7_waysInto_30 : decode cX7_waysInto 30 = .ok (.goto 15, 3) := by decide +kernel
theorem dX7_waysInto_33 : decode cX7_waysInto 33 = .ok (.aload_n 0, 1) := by decide +kernel
theorem dX7_waysInto_34 : decode cX7_waysInto 34 = .ok (.getfield 15, 3) := by decide +kernel
theorem dX7_waysInto_37 : decode cX7_waysInto 37 = .ok (.iload 5, 2) := by decide +kernel
theorem dX7_waysInto_39 : decode cX7_waysInto 39 = .ok (.invokestatic 52, 3) := by decide +kernel
theorem dX7_waysInto_42 : decode cX7_waysInto 42 = .ok (.invokestatic 55, 3) := by decide +kernel
theorem dX7_waysInto_45 : decode cX7_waysInto 45 = .ok (.iadd, 1) := by decide +kernel
theorem dX7_waysInto_46 : decode cX7_waysInto 46 = .ok (.istore_n 3, 1) := by decide +kernel
theorem dX7_waysInto_47 : decode cX7_waysInto 47 = .ok (.iinc 4 1, 3) := by decide +kernel
theorem dX7_waysInto_50 : decode cX7_waysInto 50 = .ok (.goto (-45), 3) := by decide +kernel
theorem dX7_waysInto_53 : decode cX7_waysInto 53 = .ok (.iload_n 3, 1) := by decide +kernel
theorem dX7_waysInto_54 : decode cX7_waysInto 54 = .ok (.ireturn, 1) := by decide +kernel
set_option maxRecDepth 20000 in
theorem ggX7_possibleCells_X8_bit : GoodIn wsX7_possibleCells wsX8_bit := goodIn_r _ [4] (by decide +kernel) (by decide +kernel)
set_option maxRecDepth 20000 in
theorem gX7_possibleCells_X8_bit_n42 : GoodIn wsX7_possibleCells (wsX8_bit) := ggX7_possibleCells_X8_bit
theorem dX7_possibleCells_0 : decode cX7_possibleCells 0 = .ok (.iconst 0, 1) := by decide +kernel
theorem dX7_possibleCells_1 : decode cX7_possibleCells 1 = .ok (.istore_n 1, 1) := by decide +kernel
theorem dX7_possibleCells_2 : decode cX7_possibleCells 2 = .ok (.iconst 0, 1) := by decide +kernel
theorem dX7_possibleCells_3 : decode cX7_possibleCells 3 = .ok (.istore_n 2, 1) := by decide +kernel
theorem dX7_possibleCells_4 : decode cX7_possibleCells 4 = .ok (.iload_n 2, 1) := by decide +kernel
theorem dX7_possibleCells_5 : decode cX7_possibleCells 5 = .ok (.aload_n 0, 1) := by decide +kernel
theorem dX7_possibleCells_6 : decode cX7_possibleCells 6 = .ok (.getfield 9, 3) := by decide +kernel
theorem dX7_possibleCells_9 : decode cX7_possibleCells 9 = .ok (.arraylength, 1) := by decide +kernel
theorem dX7_possibleCells_10 : decode cX7_possibleCells 10 = .ok (.if_icmp .ge 29, 3) := by decide +kernel
theorem dX7_possibleCells_13 : decode cX7_possibleCells 13 = .ok (.iload_n 1, 1) := by decide +kernel
theorem dX7_possibleCells_14 : decode cX7_possibleCells 14 = .ok (.aload_n 0, 1) := by decide +kernel
theorem dX7_possibleCells_15 : decode cX7_possibleCells 15 = .ok (.getfield 9, 3) := by decide +kernel
theorem dX7_possibleCells_18 : decode cX7_possibleCells 18 = .ok (.iload_n 2, 1) := by decide +kernel
theorem dX7_possibleCells_19 : decode cX7_possibleCells 19 = .ok (.iaload, 1) := by decide +kernel
theorem dX7_possibleCells_20 : decode cX7_possibleCells 20 = .ok (.ifCond .le 10, 3) := by decide +kernel
theorem dX7_possibleCells_23 : decode cX7_possibleCells 23 = .ok (.iload_n 2, 1) := by decide +kernel
theorem dX7_possibleCells_24 : decode cX7_possibleCells 24 = .ok (.invokestatic 42, 3) := by decide +kernel
theorem dX7_possibleCells_27 : decode cX7_possibleCells 27 = .ok (.goto 4, 3) := by decide +kernel
theorem dX7_possibleCells_30 : decode cX7_possibleCells 30 = .ok (.iconst 0, 1) := by decide +kernel
theorem dX7_possibleCells_31 : decode cX7_possibleCells 31 = .ok (.ior, 1) := by decide +kernel
theorem dX7_possibleCells_32 : decode cX7_possibleCells 32 = .ok (.istore_n 1, 1) := by decide +kernel
theorem dX7_possibleCells_33 : decode cX7_possibleCells 33 = .ok (.iinc 2 1, 3) := by decide +kernel
theorem dX7_possibleCells_36 : decode cX7_possibleCells 36 = .ok (.goto (-32), 3) := by decide +kernel
theorem dX7_possibleCells_39 : decode cX7_possibleCells 39 = .ok (.iload_n 1, 1) := by decide +kernel
theorem dX7_possibleCells_40 : decode cX7_possibleCells 40 = .ok (.ireturn, 1) := by decide +kernel
theorem dX7_walks_0 : decode cX7_walks 0 = .ok (.iconst 0, 1) := by decide +kernel
theorem dX7_walks_1 : decode cX7_walks 1 = .ok (.istore_n 1, 1) := by decide +kernel
theorem dX7_walks_2 : decode cX7_walks 2 = .ok (.iconst 0, 1) := by decide +kernel
theorem dX7_walks_3 : decode cX7_walks 3 = .ok (.istore_n 2, 1) := by decide +kernel
theorem dX7_walks_4 : decode cX7_walks 4 = .ok (.iload_n 2, 1) := by decide +kernel
theorem dX7_walks_5 : decode cX7_walks 5 = .ok (.aload_n 0, 1) := by decide +kernel
theorem dX7_walks_6 : decode cX7_walks 6 = .ok (.getfield 9, 3) := by decide +kernel
theorem dX7_walks_9 : decode cX7_walks 9 = .ok (.arraylength, 1) := by decide +kernel
theorem dX7_walks_10 : decode cX7_walks 10 = .ok (.if_icmp .ge 18, 3) := by decide +kernel
theorem dX7_walks_13 : decode cX7_walks 13 = .ok (.iload_n 1, 1) := by decide +kernel
theorem dX7_walks_14 : decode cX7_walks 14 = .ok (.aload_n 0, 1) := by decide +kernel
theorem dX7_walks_15 : decode cX7_walks 15 = .ok (.getfield 9, 3) := by decide +kernel
theorem dX7_walks_18 : decode cX7_walks 18 = .ok (.iload_n 2, 1) := by decide +kernel
theorem dX7_walks_19 : decode cX7_walks 19 = .ok (.iaload, 1) := by decide +kernel
theorem dX7_walks_20 : decode cX7_walks 20 = .ok (.iadd, 1) := by decide +kernel
theorem dX7_walks_21 : decode cX7_walks 21 = .ok (.istore_n 1, 1) := by decide +kernel
theorem dX7_walks_22 : decode cX7_walks 22 = .ok (.iinc 2 1, 3) := by decide +kernel
theorem dX7_walks_25 : decode cX7_walks 25 = .ok (.goto (-21), 3) := by decide +kernel
theorem dX7_walks_28 : decode cX7_walks 28 = .ok (.iload_n 1, 1) := by decide +kernel
theorem dX7_walks_29 : decode cX7_walks 29 = .ok (.ireturn, 1) := by decide +kernel
set_option maxRecDepth 20000 in
theorem ggX8_init_X2_init : GoodIn wsX8_init wsX2_init := goodIn_r _ [34, 35, 2, 3, 36, 37, 110, 111] (by decide +kernel) (by decide +kernel)
set_option maxRecDepth 20000 in
theorem gX8_init_X2_init_n9 : GoodIn wsX8_init (wsX2_init) := ggX8_init_X2_init
set_option maxRecDepth 20000 in
theorem ggX8_init_X0_init : GoodIn wsX8_init wsX0_init := goodIn_r _ [40, 41, 2, 3, 42, 43, 44, 45, 46, 47, 48, 49, 50, 51, 52, 53, 54, 55, 56, 10, 57, 58, 59, 60, 61, 62, 63, 64, 65, 66, 67, 68, 69, 70, 71, 72, 73, 74, 75, 76, 77, 78, 79, 80, 81, 82, 83, 84, 152, 153, 154, 155, 120, 121, 122, 123, 124, 125, 126, 127, 128, 129, 130, 131, 132] (by decide +kernel) (by decide +kernel)
set_option maxRecDepth 20000 in
theorem gX8_init_X0_init : GoodIn wsX8_init (wsX0_init) := ggX8_init_X0_init
set_option maxRecDepth 20000 in
theorem ggX8_init_X1_init : GoodIn wsX8_init wsX1_init := goodIn_r _ [86, 87, 2, 3, 88, 9, 10, 89, 90, 39, 40, 41, 42, 43, 44, 45, 46, 47, 48, 49, 50, 51, 52, 53, 54, 55, 56, 57, 58, 59, 60, 61, 62, 63, 64, 65, 66, 67, 68, 69, 70, 71, 72, 73, 74, 75, 76, 77, 78, 79, 80, 81, 82, 83, 84, 120, 121, 122, 123, 124, 125, 126, 127, 128, 129, 130, 131, 132, 133, 134, 152, 153, 154, 155] (by decide +kernel) (by decide +kernel)
set_option maxRecDepth 20000 in
theorem gX8_init_X1_init_n25 : GoodIn wsX8_init (wsX1_init) := ggX8_init_X1_init
set_option maxRecDepth 20000 in
theorem ggX8_init_X6_init : GoodIn wsX8_init wsX6_init := goodIn_r _ [92, 93, 2, 3, 50, 94, 95, 96, 135, 136, 137, 138, 139, 140] (by decide +kernel) (by decide +kernel)
set_option maxRecDepth 20000 in
theorem gX8_init_X6_init_n35 : GoodIn wsX8_init (wsX6_init) := ggX8_init_X6_init
set_option maxRecDepth 20000 in
theorem ggX8_init_X3_init : GoodIn wsX8_init wsX3_init := goodIn_r _ [98, 99, 2, 3] (by decide +kernel) (by decide +kernel)
set_option maxRecDepth 20000 in
theorem gX8_init_X3_init_n42 : GoodIn wsX8_init (wsX3_init) := ggX8_init_X3_init
set_option maxRecDepth 20000 in
theorem ggX8_init_X5_init : GoodIn wsX8_init wsX5_init := goodIn_r _ [101, 102, 2, 3, 50, 103, 104, 148, 149] (by decide +kernel) (by decide +kernel)
set_option maxRecDepth 20000 in
theorem gX8_init_X5_init_n49 : GoodIn wsX8_init (wsX5_init) := ggX8_init_X5_init
set_option maxRecDepth 20000 in
theorem ggX8_init_X7_init : GoodIn wsX8_init wsX7_init := goodIn_r _ [106, 107, 2, 3, 50, 108, 109, 150, 151] (by decide +kernel) (by decide +kernel)
set_option maxRecDepth 20000 in
theorem gX8_init_X7_init_n56 : GoodIn wsX8_init (wsX7_init) := ggX8_init_X7_init
theorem dX8_init_0 : decode cX8_init 0 = .ok (.aload_n 0, 1) := by decide +kernel
theorem dX8_init_1 : decode cX8_init 1 = .ok (.invokespecial 1, 3) := by decide +kernel
theorem dX8_init_4 : decode cX8_init 4 = .ok (.aload_n 0, 1) := by decide +kernel
theorem dX8_init_5 : decode cX8_init 5 = .ok (.new 7, 3) := by decide +kernel
theorem dX8_init_8 : decode cX8_init 8 = .ok (.dup, 1) := by decide +kernel
theorem dX8_init_9 : decode cX8_init 9 = .ok (.invokespecial 9, 3) := by decide +kernel
theorem dX8_init_12 : decode cX8_init 12 = .ok (.putfield 10, 3) := by decide +kernel
theorem dX8_init_15 : decode cX8_init 15 = .ok (.aload_n 0, 1) := by decide +kernel
theorem dX8_init_16 : decode cX8_init 16 = .ok (.new 16, 3) := by decide +kernel
theorem dX8_init_19 : decode cX8_init 19 = .ok (.dup, 1) := by decide +kernel
theorem dX8_init_20 : decode cX8_init 20 = .ok (.invokespecial 18, 3) := by decide +kernel
theorem dX8_init_23 : decode cX8_init 23 = .ok (.putfield 19, 3) := by decide +kernel
theorem dX8_init_26 : decode cX8_init 26 = .ok (.aload_n 0, 1) := by decide +kernel
theorem dX8_init_27 : decode cX8_init 27 = .ok (.new 23, 3) := by decide +kernel
theorem dX8_init_30 : decode cX8_init 30 = .ok (.dup, 1) := by decide +kernel
theorem dX8_init_31 : decode cX8_init 31 = .ok (.invokespecial 25, 3) := by decide +kernel
theorem dX8_init_34 : decode cX8_init 34 = .ok (.putfield 26, 3) := by decide +kernel
theorem dX8_init_37 : decode cX8_init 37 = .ok (.aload_n 0, 1) := by decide +kernel
theorem dX8_init_38 : decode cX8_init 38 = .ok (.new 23, 3) := by decide +kernel
theorem dX8_init_41 : decode cX8_init 41 = .ok (.dup, 1) := by decide +kernel
theorem dX8_init_42 : decode cX8_init 42 = .ok (.invokespecial 25, 3) := by decide +kernel
theorem dX8_init_45 : decode cX8_init 45 = .ok (.putfield 30, 3) := by decide +kernel
theorem dX8_init_48 : decode cX8_init 48 = .ok (.aload_n 0, 1) := by decide +kernel
theorem dX8_init_49 : decode cX8_init 49 = .ok (.new 33, 3) := by decide +kernel
theorem dX8_init_52 : decode cX8_init 52 = .ok (.dup, 1) := by decide +kernel
theorem dX8_init_53 : decode cX8_init 53 = .ok (.invokespecial 35, 3) := by decide +kernel
theorem dX8_init_56 : decode cX8_init 56 = .ok (.putfield 36, 3) := by decide +kernel
theorem dX8_init_59 : decode cX8_init 59 = .ok (.aload_n 0, 1) := by decide +kernel
theorem dX8_init_60 : decode cX8_init 60 = .ok (.new 40, 3) := by decide +kernel
theorem dX8_init_63 : decode cX8_init 63 = .ok (.dup, 1) := by decide +kernel
theorem dX8_init_64 : decode cX8_init 64 = .ok (.invokespecial 42, 3) := by decide +kernel
theorem dX8_init_67 : decode cX8_init 67 = .ok (.putfield 43, 3) := by decide +kernel
theorem dX8_init_70 : decode cX8_init 70 = .ok (.aload_n 0, 1) := by decide +kernel
theorem dX8_init_71 : decode cX8_init 71 = .ok (.new 47, 3) := by decide +kernel
theorem dX8_init_74 : decode cX8_init 74 = .ok (.dup, 1) := by decide +kernel
theorem dX8_init_75 : decode cX8_init 75 = .ok (.invokespecial 49, 3) := by decide +kernel
theorem dX8_init_78 : decode cX8_init 78 = .ok (.putfield 50, 3) := by decide +kernel
theorem dX8_init_81 : decode cX8_init 81 = .ok (.aload_n 0, 1) := by decide +kernel
theorem dX8_init_82 : decode cX8_init 82 = .ok (.new 54, 3) := by decide +kernel
theorem dX8_init_85 : decode cX8_init 85 = .ok (.dup, 1) := by decide +kernel
theorem dX8_init_86 : decode cX8_init 86 = .ok (.invokespecial 56, 3) := by decide +kernel
theorem dX8_init_89 : decode cX8_init 89 = .ok (.putfield 57, 3) := by decide +kernel
theorem dX8_init_92 : decode cX8_init 92 = .ok (.return_, 1) := by decide +kernel
set_option maxRecDepth 20000 in
theorem ggX8_house_X8_within : GoodIn wsX8_house wsX8_within := goodIn_r _ [5] (by decide +kernel) (by decide +kernel)
set_option maxRecDepth 20000 in
theorem gX8_house_X8_within : GoodIn wsX8_house (va_wsS RX8 61 yX8_within wsX8_within) := goodIn_app (goodIn_of _ (by decide +kernel)) ggX8_house_X8_within
set_option maxRecDepth 20000 in
theorem ggX8_house_X0_layOut : GoodIn wsX8_house wsX0_layOut := goodIn_r _ [10, 11, 12, 13, 14, 15, 16, 17, 18, 19, 20, 9, 21, 22, 4, 23, 24, 25, 26, 27, 28, 29, 30, 31, 32, 33, 34, 35, 36, 37, 38, 48, 49, 50, 51, 52, 53, 54, 55, 56, 57, 58, 59, 60, 61, 62, 63, 64] (by decide +kernel) (by decide +kernel)
set_option maxRecDepth 20000 in
theorem gX8_house_X0_layOut : GoodIn wsX8_house (wsV RX8 65 RX0 yX0_layOut wsX0_layOut) := goodIn_app (goodIn_of _ (by decide +kernel)) ggX8_house_X0_layOut
set_option maxRecDepth 20000 in
theorem ggX8_house_X0_cells : GoodIn wsX8_house wsX0_cells := goodIn_r _ [21, 11, 12, 48, 49, 50, 51, 52, 53, 54, 55, 56, 57, 58, 59, 60] (by decide +kernel) (by decide +kernel)
set_option maxRecDepth 20000 in
theorem gX8_house_X0_cells : GoodIn wsX8_house (wsV RX8 69 RX0 yX0_cells wsX0_cells) := goodIn_app (goodIn_of _ (by decide +kernel)) ggX8_house_X0_cells
theorem dX8_house_0 : decode cX8_house 0 = .ok (.iload_n 1, 1) := by decide +kernel
theorem dX8_house_1 : decode cX8_house 1 = .ok (.iconst 1, 1) := by decide +kernel
theorem dX8_house_2 : decode cX8_house 2 = .ok (.iconst 4, 1) := by decide +kernel
theorem dX8_house_3 : decode cX8_house 3 = .ok (.invokestatic 61, 3) := by decide +kernel
theorem dX8_house_6 : decode cX8_house 6 = .ok (.ifCond .eq 12, 3) := by decide +kernel
theorem dX8_house_9 : decode cX8_house 9 = .ok (.iload_n 2, 1) := by decide +kernel
theorem dX8_house_10 : decode cX8_house 10 = .ok (.iconst 1, 1) := by decide +kernel
theorem dX8_house_11 : decode cX8_house 11 = .ok (.iconst 4, 1) := by decide +kernel
theorem dX8_house_12 : decode cX8_house 12 = .ok (.invokestatic 61, 3) := by decide +kernel
theorem dX8_house_15 : decode cX8_house 15 = .ok (.ifCond .ne 6, 3) := by decide +kernel
theorem dX8_house_18 : decode cX8_house 18 = .ok (.bipush (-2), 2) := by decide +kernel
theorem dX8_house_20 : decode cX8_house 20 = .ok (.ireturn, 1) := by decide +kernel
theorem dX8_house_21 : decode cX8_house 21 = .ok (.aload_n 0, 1) := by decide +kernel
theorem dX8_house_22 : decode cX8_house 22 = .ok (.getfield 19, 3) := by decide +kernel
theorem dX8_house_25 : decode cX8_house 25 = .ok (.iload_n 1, 1) := by decide +kernel
theorem dX8_house_26 : decode cX8_house 26 = .ok (.iload_n 2, 1) := by decide +kernel
theorem dX8_house_27 : decode cX8_house 27 = .ok (.invokevirtual 65, 3) := by decide +kernel
theorem dX8_house_30 : decode cX8_house 30 = .ok (.aload_n 0, 1) := by decide +kernel
theorem dX8_house_31 : decode cX8_house 31 = .ok (.getfield 19, 3) := by decide +kernel
theorem dX8_house_34 : decode cX8_house 34 = .ok (.invokevirtual 69, 3) := by decide +kernel
theorem dX8_house_37 : decode cX8_house 37 = .ok (.ireturn, 1) := by decide +kernel
set_option maxRecDepth 20000 in
theorem ggX8_say_X8_within : GoodIn wsX8_say wsX8_within := goodIn_r _ [6] (by decide +kernel) (by decide +kernel)
set_option maxRecDepth 20000 in
theorem gX8_say_X8_within : GoodIn wsX8_say (va_wsS RX8 61 yX8_within wsX8_within) := goodIn_app (goodIn_of _ (by decide +kernel)) ggX8_say_X8_within
set_option maxRecDepth 20000 in
theorem ggX8_say_X2_add : GoodIn wsX8_say wsX2_add := goodIn_r _ [11, 12, 13, 22, 23] (by decide +kernel) (by decide +kernel)
set_option maxRecDepth 20000 in
theorem gX8_say_X2_add : GoodIn wsX8_say (wsV RX8 73 RX2 yX2_add wsX2_add) := goodIn_app (goodIn_of _ (by decide +kernel)) ggX8_say_X2_add
theorem dX8_say_0 : decode cX8_say 0 = .ok (.iload_n 1, 1) := by decide +kernel
theorem dX8_say_1 : decode cX8_say 1 = .ok (.bipush 33, 2) := by decide +kernel
theorem dX8_say_3 : decode cX8_say 3 = .ok (.bipush 126, 2) := by decide +kernel
theorem dX8_say_5 : decode cX8_say 5 = .ok (.invokestatic 61, 3) := by decide +kernel
theorem dX8_say_8 : decode cX8_say 8 = .ok (.ifCond .ne 6, 3) := by decide +kernel
theorem dX8_say_11 : decode cX8_say 11 = .ok (.bipush (-2), 2) := by decide +kernel
theorem dX8_say_13 : decode cX8_say 13 = .ok (.ireturn, 1) := by decide +kernel
theorem dX8_say_14 : decode cX8_say 14 = .ok (.aload_n 0, 1) := by decide +kernel
theorem dX8_say_15 : decode cX8_say 15 = .ok (.getfield 10, 3) := by decide +kernel
theorem dX8_say_18 : decode cX8_say 18 = .ok (.iload_n 1, 1) := by decide +kernel
theorem dX8_say_19 : decode cX8_say 19 = .ok (.i2c, 1) := by decide +kernel
theorem dX8_say_20 : decode cX8_say 20 = .ok (.invokevirtual 73, 3) := by decide +kernel
theorem dX8_say_23 : decode cX8_say 23 = .ok (.ifCond .eq 13, 3) := by decide +kernel
theorem dX8_say_26 : decode cX8_say 26 = .ok (.aload_n 0, 1) := by decide +kernel
theorem dX8_say_27 : decode cX8_say 27 = .ok (.getfield 10, 3) := by decide +kernel
theorem dX8_say_30 : decode cX8_say 30 = .ok (.getfield 77, 3) := by decide +kernel
theorem dX8_say_33 : decode cX8_say 33 = .ok (.goto 5, 3) := by decide +kernel
theorem dX8_say_36 : decode cX8_say 36 = .ok (.bipush (-4), 2) := by decide +kernel
theorem dX8_say_38 : decode cX8_say 38 = .ok (.ireturn, 1) := by decide +kernel
set_option maxRecDepth 20000 in
theorem ggX8_wipe_X2_clear : GoodIn wsX8_wipe wsX2_clear := goodIn_r _ [6, 7, 16, 17] (by decide +kernel) (by decide +kernel)
set_option maxRecDepth 20000 in
theorem gX8_wipe_X2_clear : GoodIn wsX8_wipe (wsV RX8 81 RX2 yX2_clear wsX2_clear) := goodIn_app (goodIn_of _ (by decide +kernel)) ggX8_wipe_X2_clear
theorem dX8_wipe_0 : decode cX8_wipe 0 = .ok (.aload_n 0, 1) := by decide +kernel
theorem dX8_wipe_1 : decode cX8_wipe 1 = .ok (.getfield 10, 3) := by decide +kernel
theorem dX8_wipe_4 : decode cX8_wipe 4 = .ok (.invokevirtual 81, 3) := by decide +kernel
theorem dX8_wipe_7 : decode cX8_wipe 7 = .ok (.ireturn, 1) := by decide +kernel
set_option maxRecDepth 20000 in
theorem ggX8_fault_X0_cells : GoodIn wsX8_fault wsX0_cells := goodIn_r _ [7, 8, 9, 126, 127, 128, 129, 130, 131, 132, 133, 134, 135, 136, 137, 138] (by decide +kernel) (by decide +kernel)
set_option maxRecDepth 20000 in
theorem gX8_fault_X0_cells : GoodIn wsX8_fault (wsV RX8 69 RX0 yX0_cells wsX0_cells) := goodIn_app (goodIn_of _ (by decide +kernel)) ggX8_fault_X0_cells
set_option maxRecDepth 20000 in
theorem ggX8_fault_X2_houseFault : GoodIn wsX8_fault wsX2_houseFault := goodIn_r _ [14, 15, 16, 17, 18, 13, 19, 20, 21, 22, 23, 24, 25, 26, 27, 28, 29, 30, 31, 32, 33, 34, 35, 36, 37, 38, 39, 40, 41, 42, 43, 44, 45, 46, 47, 48, 49, 50, 51, 52, 53, 54, 55, 56, 57, 58, 59, 60, 61, 62, 63, 64, 65, 66, 67, 68, 69, 70, 71, 72, 73, 74, 75, 76, 77, 78, 79, 80, 81, 82, 83, 84, 85, 86, 87, 88, 89, 90, 91, 92, 93, 94, 95, 96, 97, 98, 99, 100, 101, 102, 103, 104, 105, 106, 107, 108, 109, 110, 111, 112, 113, 139, 140] (by decide +kernel) (by decide +kernel)
set_option maxRecDepth 20000 in
theorem gX8_fault_X2_houseFault : GoodIn wsX8_fault (wsV RX8 84 RX2 yX2_houseFault wsX2_houseFault) := goodIn_app (goodIn_of _ (by decide +kernel)) ggX8_fault_X2_houseFault
set_option maxRecDepth 20000 in
theorem ggX8_fault_X2_walkFault : GoodIn wsX8_fault wsX2_walkFault := goodIn_r _ [117, 16, 17, 18, 13, 19, 15, 20, 21, 22, 23, 24, 25, 26, 27, 28, 29, 30, 31, 32, 33, 34, 35, 36, 37, 38, 39, 40, 41, 42, 43, 44, 45, 46, 47, 48, 49, 50, 51, 52, 53, 54, 55, 56, 57, 58, 59, 60, 61, 62, 63, 64, 65, 66, 67, 68, 69, 70, 71, 72, 73, 74, 75, 76, 77, 78, 79, 80, 81, 82, 83, 84, 85, 86, 87, 88, 89, 90, 91, 92, 93, 94, 95, 96, 97, 98, 99, 100, 101, 102, 103, 104, 105, 106, 107, 108, 109, 110, 111, 112, 113, 139, 140] (by decide +kernel) (by decide +kernel)
set_option maxRecDepth 20000 in
theorem gX8_fault_X2_walkFault : GoodIn wsX8_fault (wsV RX8 88 RX2 yX2_walkFault wsX2_walkFault) := goodIn_app (goodIn_of _ (by decide +kernel)) ggX8_fault_X2_walkFault
theorem dX8_fault_0 : decode cX8_fault 0 = .ok (.iload_n 1, 1) := by decide +kernel
theorem dX8_fault_1 : decode cX8_fault 1 = .ok (.ifCond .ne 18, 3) := by decide +kernel
theorem dX8_fault_4 : decode cX8_fault 4 = .ok (.aload_n 0, 1) := by decide +kernel
theorem dX8_fault_5 : decode cX8_fault 5 = .ok (.getfield 10, 3) := by decide +kernel
theorem dX8_fault_8 : decode cX8_fault 8 = .ok (.aload_n 0, 1) := by decide +kernel
theorem dX8_fault_9 : decode cX8_fault 9 = .ok (.getfield 19, 3) := by decide +kernel
theorem dX8_fault_12 : decode cX8_fault 12 = .ok (.invokevirtual 69, 3) := by decide +kernel
theorem dX8_fault_15 : decode cX8_fault 15 = .ok (.invokevirtual 84, 3) := by decide +kernel
theorem dX8_fault_18 : decode cX8_fault 18 = .ok (.ireturn, 1) := by decide +kernel
theorem dX8_fault_19 : decode cX8_fault 19 = .ok (.iload_n 1, 1) := by decide +kernel
theorem dX8_fault_20 : decode cX8_fault 20 = .ok (.iconst 1, 1) := by decide +kernel
theorem dX8_fault_21 : decode cX8_fault 21 = .ok (.if_icmp .ne 13, 3) := by decide +kernel
theorem dX8_fault_24 : decode cX8_fault 24 = .ok (.aload_n 0, 1) := by decide +kernel
theorem dX8_fault_25 : decode cX8_fault 25 = .ok (.getfield 10, 3) := by decide +kernel
theorem dX8_fault_28 : decode cX8_fault 28 = .ok (.invokevirtual 88, 3) := by decide +kernel
theorem dX8_fault_31 : decode cX8_fault 31 = .ok (.goto 5, 3) := by decide +kernel
theorem dX8_fault_34 : decode cX8_fault 34 = .ok (.bipush (-2), 2) := by decide +kernel
theorem dX8_fault_36 : decode cX8_fault 36 = .ok (.ireturn, 1) := by decide +kernel
set_option maxRecDepth 20000 in
theorem ggX8_build_X0_cells : GoodIn wsX8_build wsX0_cells := goodIn_r _ [7, 8, 9, 177, 178, 179, 180, 181, 182, 183, 184, 185, 186, 187, 188, 189] (by decide +kernel) (by decide +kernel)
set_option maxRecDepth 20000 in
theorem gX8_build_X0_cells : GoodIn wsX8_build (wsV RX8 69 RX0 yX0_cells wsX0_cells) := goodIn_app (goodIn_of _ (by decide +kernel)) ggX8_build_X0_cells
set_option maxRecDepth 20000 in
theorem ggX8_build_X2_houseFault : GoodIn wsX8_build wsX2_houseFault := goodIn_r _ [14, 15, 16, 17, 18, 13, 19, 20, 21, 22, 23, 24, 25, 26, 27, 28, 29, 30, 31, 32, 33, 34, 35, 36, 37, 38, 39, 40, 41, 42, 43, 44, 45, 46, 47, 48, 49, 50, 51, 52, 53, 54, 55, 56, 57, 58, 59, 60, 61, 62, 63, 64, 65, 66, 67, 68, 69, 70, 71, 72, 73, 74, 75, 76, 77, 78, 79, 80, 81, 82, 83, 84, 85, 86, 87, 88, 89, 90, 91, 92, 93, 94, 95, 96, 97, 98, 99, 100, 101, 102, 103, 104, 105, 106, 107, 108, 109, 110, 111, 112, 113, 190, 191] (by decide +kernel) (by decide +kernel)
set_option maxRecDepth 20000 in
theorem gX8_build_X2_houseFault : GoodIn wsX8_build (wsV RX8 84 RX2 yX2_houseFault wsX2_houseFault) := goodIn_app (goodIn_of _ (by decide +kernel)) ggX8_build_X2_houseFault
set_option maxRecDepth 20000 in
theorem ggX8_build_X2_isAll : GoodIn wsX8_build wsX2_isAll := goodIn_r _ [117, 15, 20, 21, 22, 13, 23, 24, 190, 191] (by decide +kernel) (by decide +kernel)
set_option maxRecDepth 20000 in
theorem gX8_build_X2_isAll : GoodIn wsX8_build (wsV RX8 91 RX2 yX2_isAll wsX2_isAll) := goodIn_app (goodIn_of _ (by decide +kernel)) ggX8_build_X2_isAll
set_option maxRecDepth 20000 in
theorem ggX8_build_X0_furnish : GoodIn wsX8_build wsX0_furnish := goodIn_r _ [121, 122, 123, 124, 125, 126, 127, 6, 128, 129, 130, 131, 132, 133, 134, 135, 136, 137, 138, 139, 4, 5, 7, 8, 9, 140, 21, 22, 13, 23, 15, 24, 141, 142, 143, 144, 145, 146, 147, 148, 149, 150, 151, 152, 153, 154, 155, 156, 157, 158, 159, 160, 161, 162, 163, 177, 178, 179, 180, 181, 182, 183, 184, 185, 186, 187, 188, 189, 192, 193, 194, 195, 190, 191] (by decide +kernel) (by decide +kernel)
set_option maxRecDepth 20000 in
theorem gX8_build_X0_furnish : GoodIn wsX8_build (wsV RX8 94 RX0 yX0_furnish wsX0_furnish) := goodIn_app (goodIn_of _ (by decide +kernel)) ggX8_build_X0_furnish
set_option maxRecDepth 20000 in
theorem ggX8_build_X2_clear : GoodIn wsX8_build wsX2_clear := goodIn_r _ [167, 15, 190, 191] (by decide +kernel) (by decide +kernel)
set_option maxRecDepth 20000 in
theorem gX8_build_X2_clear : GoodIn wsX8_build (wsV RX8 81 RX2 yX2_clear wsX2_clear) := goodIn_app (goodIn_of _ (by decide +kernel)) ggX8_build_X2_clear
set_option maxRecDepth 20000 in
theorem ggX8_build_X0_open : GoodIn wsX8_build wsX0_open := goodIn_r _ [151, 152, 123, 177, 178, 179, 180, 181, 182, 183, 184, 185, 186, 187, 188, 189] (by decide +kernel) (by decide +kernel)
set_option maxRecDepth 20000 in
theorem gX8_build_X0_open : GoodIn wsX8_build (wsV RX8 98 RX0 yX0_open wsX0_open) := goodIn_app (goodIn_of _ (by decide +kernel)) ggX8_build_X0_open
set_option maxRecDepth 20000 in
theorem ggX8_build_J6_bitCount_0f7a4 : GoodIn wsX8_build wsJ6_bitCount_0f7a4 := goodIn_r _ [158, 159, 160, 161] (by decide +kernel) (by decide +kernel)
set_option maxRecDepth 20000 in
theorem gX8_build_J6_bitCount_0f7a4 : GoodIn wsX8_build (va_wsS RX8 101 yJ6_bitCount_0f7a4 wsJ6_bitCount_0f7a4) := goodIn_app (goodIn_of _ (by decide +kernel)) ggX8_build_J6_bitCount_0f7a4
theorem dX8_build_0 : decode cX8_build 0 = .ok (.aload_n 0, 1) := by decide +kernel
theorem dX8_build_1 : decode cX8_build 1 = .ok (.getfield 10, 3) := by decide +kernel
theorem dX8_build_4 : decode cX8_build 4 = .ok (.aload_n 0, 1) := by decide +kernel
theorem dX8_build_5 : decode cX8_build 5 = .ok (.getfield 19, 3) := by decide +kernel
theorem dX8_build_8 : decode cX8_build 8 = .ok (.invokevirtual 69, 3) := by decide +kernel
theorem dX8_build_11 : decode cX8_build 11 = .ok (.invokevirtual 84, 3) := by decide +kernel
theorem dX8_build_14 : decode cX8_build 14 = .ok (.bipush (-6), 2) := by decide +kernel
theorem dX8_build_16 : decode cX8_build 16 = .ok (.if_icmp .eq 6, 3) := by decide +kernel
theorem dX8_build_19 : decode cX8_build 19 = .ok (.bipush (-5), 2) := by decide +kernel
theorem dX8_build_21 : decode cX8_build 21 = .ok (.ireturn, 1) := by decide +kernel
theorem dX8_build_22 : decode cX8_build 22 = .ok (.aload_n 0, 1) := by decide +kernel
theorem dX8_build_23 : decode cX8_build 23 = .ok (.getfield 10, 3) := by decide +kernel
theorem dX8_build_26 : decode cX8_build 26 = .ok (.bipush 35, 2) := by decide +kernel
theorem dX8_build_28 : decode cX8_build 28 = .ok (.invokevirtual 91, 3) := by decide +kernel
theorem dX8_build_31 : decode cX8_build 31 = .ok (.ifCond .eq 6, 3) := by decide +kernel
theorem dX8_build_34 : decode cX8_build 34 = .ok (.bipush (-3), 2) := by decide +kernel
theorem dX8_build_36 : decode cX8_build 36 = .ok (.ireturn, 1) := by decide +kernel
theorem dX8_build_37 : decode cX8_build 37 = .ok (.aload_n 0, 1) := by decide +kernel
theorem dX8_build_38 : decode cX8_build 38 = .ok (.getfield 19, 3) := by decide +kernel
theorem dX8_build_41 : decode cX8_build 41 = .ok (.aload_n 0, 1) := by decide +kernel
theorem dX8_build_42 : decode cX8_build 42 = .ok (.getfield 10, 3) := by decide +kernel
theorem dX8_build_45 : decode cX8_build 45 = .ok (.invokevirtual 94, 3) := by decide +kernel
theorem dX8_build_48 : decode cX8_build 48 = .ok (.aload_n 0, 1) := by decide +kernel
theorem dX8_build_49 : decode cX8_build 49 = .ok (.getfield 10, 3) := by decide +kernel
theorem dX8_build_52 : decode cX8_build 52 = .ok (.invokevirtual 81, 3) := by decide +kernel
theorem dX8_build_55 : decode cX8_build 55 = .ok (.pop, 1) := by decide +kernel
theorem dX8_build_56 : decode cX8_build 56 = .ok (.aload_n 0, 1) := by decide +kernel
theorem dX8_build_57 : decode cX8_build 57 = .ok (.getfield 19, 3) := by decide +kernel
theorem dX8_build_60 : decode cX8_build 60 = .ok (.invokevirtual 98, 3) := by decide +kernel
theorem dX8_build_63 : decode cX8_build 63 = .ok (.invokestatic 101, 3) := by decide +kernel
theorem dX8_build_66 : decode cX8_build 66 = .ok (.ireturn, 1) := by decide +kernel
set_option maxRecDepth 20000 in
theorem ggX8_cell_X0_isCell : GoodIn wsX8_cell wsX0_isCell := goodIn_r _ [6, 7, 8, 9, 5, 10, 11, 12, 32, 33, 34, 35, 36, 37, 38, 39, 40, 41, 42, 43, 44] (by decide +kernel) (by decide +kernel)
set_option maxRecDepth 20000 in
theorem gX8_cell_X0_isCell : GoodIn wsX8_cell (wsV RX8 106 RX0 yX0_isCell wsX0_isCell) := goodIn_app (goodIn_of _ (by decide +kernel)) ggX8_cell_X0_isCell
set_option maxRecDepth 20000 in
theorem ggX8_cell_X0_signOf : GoodIn wsX8_cell wsX0_signOf := goodIn_r _ [16, 17, 18, 19, 20, 21, 22, 23, 32, 33, 34, 35, 36, 37, 38, 39, 40, 41, 42, 43, 44] (by decide +kernel) (by decide +kernel)
set_option maxRecDepth 20000 in
theorem gX8_cell_X0_signOf : GoodIn wsX8_cell (wsV RX8 110 RX0 yX0_signOf wsX0_signOf) := goodIn_app (goodIn_of _ (by decide +kernel)) ggX8_cell_X0_signOf
theorem dX8_cell_0 : decode cX8_cell 0 = .ok (.aload_n 0, 1) := by decide +kernel
theorem dX8_cell_1 : decode cX8_cell 1 = .ok (.getfield 19, 3) := by decide +kernel
theorem dX8_cell_4 : decode cX8_cell 4 = .ok (.iload_n 1, 1) := by decide +kernel
theorem dX8_cell_5 : decode cX8_cell 5 = .ok (.invokevirtual 106, 3) := by decide +kernel
theorem dX8_cell_8 : decode cX8_cell 8 = .ok (.ifCond .eq 14, 3) := by decide +kernel
theorem dX8_cell_11 : decode cX8_cell 11 = .ok (.aload_n 0, 1) := by decide +kernel
theorem dX8_cell_12 : decode cX8_cell 12 = .ok (.getfield 19, 3) := by decide +kernel
theorem dX8_cell_15 : decode cX8_cell 15 = .ok (.iload_n 1, 1) := by decide +kernel
theorem dX8_cell_16 : decode cX8_cell 16 = .ok (.invokevirtual 110, 3) := by decide +kernel
theorem dX8_cell_19 : decode cX8_cell 19 = .ok (.goto 4, 3) := by decide +kernel
theorem dX8_cell_22 : decode cX8_cell 22 = .ok (.iconst (-1), 1) := by decide +kernel
theorem dX8_cell_23 : decode cX8_cell 23 = .ok (.ireturn, 1) := by decide +kernel
set_option maxRecDepth 20000 in
theorem ggX8_place_X0_isCell : GoodIn wsX8_place wsX0_isCell := goodIn_r _ [7, 8, 9, 10, 6, 11, 12, 13, 39, 40, 41, 42, 43, 44, 45, 46, 47, 48, 49, 50, 51] (by decide +kernel) (by decide +kernel)
set_option maxRecDepth 20000 in
theorem gX8_place_X0_isCell : GoodIn wsX8_place (wsV RX8 106 RX0 yX0_isCell wsX0_isCell) := goodIn_app (goodIn_of _ (by decide +kernel)) ggX8_place_X0_isCell
set_option maxRecDepth 20000 in
theorem ggX8_place_X8_within : GoodIn wsX8_place wsX8_within := goodIn_r _ [17] (by decide +kernel) (by decide +kernel)
set_option maxRecDepth 20000 in
theorem gX8_place_X8_within : GoodIn wsX8_place (va_wsS RX8 61 yX8_within wsX8_within) := goodIn_app (goodIn_of _ (by decide +kernel)) ggX8_place_X8_within
set_option maxRecDepth 20000 in
theorem ggX8_place_X8_has : GoodIn wsX8_place wsX8_has := goodIn_r _ [20] (by decide +kernel) (by decide +kernel)
set_option maxRecDepth 20000 in
theorem gX8_place_X8_has : GoodIn wsX8_place (va_wsS RX8 116 yX8_has wsX8_has) := goodIn_app (goodIn_of _ (by decide +kernel)) ggX8_place_X8_has
set_option maxRecDepth 20000 in
theorem ggX8_place_X0_moveDoor : GoodIn wsX8_place wsX0_moveDoor := goodIn_r _ [24, 25, 39, 40, 41, 42, 43, 44, 45, 46, 47, 48, 49, 50, 51] (by decide +kernel) (by decide +kernel)
set_option maxRecDepth 20000 in
theorem gX8_place_X0_moveDoor : GoodIn wsX8_place (wsV RX8 120 RX0 yX0_moveDoor wsX0_moveDoor) := goodIn_app (goodIn_of _ (by decide +kernel)) ggX8_place_X0_moveDoor
set_option maxRecDepth 20000 in
theorem ggX8_place_X0_moveThing : GoodIn wsX8_place wsX0_moveThing := goodIn_r _ [29, 30, 39, 40, 41, 42, 43, 44, 45, 46, 47, 48, 49, 50, 51] (by decide +kernel) (by decide +kernel)
set_option maxRecDepth 20000 in
theorem gX8_place_X0_moveThing : GoodIn wsX8_place (wsV RX8 123 RX0 yX0_moveThing wsX0_moveThing) := goodIn_app (goodIn_of _ (by decide +kernel)) ggX8_place_X0_moveThing
theorem dX8_place_0 : decode cX8_place 0 = .ok (.aload_n 0, 1) := by decide +kernel
theorem dX8_place_1 : decode cX8_place 1 = .ok (.getfield 19, 3) := by decide +kernel
theorem dX8_place_4 : decode cX8_place 4 = .ok (.iload_n 2, 1) := by decide +kernel
theorem dX8_place_5 : decode cX8_place 5 = .ok (.invokevirtual 106, 3) := by decide +kernel
theorem dX8_place_8 : decode cX8_place 8 = .ok (.ifCond .ne 5, 3) := by decide +kernel
theorem dX8_place_11 : decode cX8_place 11 = .ok (.iconst (-1), 1) := by decide +kernel
theorem dX8_place_12 : decode cX8_place 12 = .ok (.ireturn, 1) := by decide +kernel
theorem dX8_place_13 : decode cX8_place 13 = .ok (.iload_n 1, 1) := by decide +kernel
theorem dX8_place_14 : decode cX8_place 14 = .ok (.iconst 0, 1) := by decide +kernel
theorem dX8_place_15 : decode cX8_place 15 = .ok (.iconst 1, 1) := by decide +kernel
theorem dX8_place_16 : decode cX8_place 16 = .ok (.invokestatic 61, 3) := by decide +kernel
theorem dX8_place_19 : decode cX8_place 19 = .ok (.ifCond .ne 6, 3) := by decide +kernel
theorem dX8_place_22 : decode cX8_place 22 = .ok (.bipush (-2), 2) := by decide +kernel
theorem dX8_place_24 : decode cX8_place 24 = .ok (.ireturn, 1) := by decide +kernel
theorem dX8_place_25 : decode cX8_place 25 = .ok (.aload_n 0, 1) := by decide +kernel
theorem dX8_place_26 : decode cX8_place 26 = .ok (.getfield 19, 3) := by decide +kernel
theorem dX8_place_29 : decode cX8_place 29 = .ok (.getfield 113, 3) := by decide +kernel
theorem dX8_place_32 : decode cX8_place 32 = .ok (.iload_n 2, 1) := by decide +kernel
theorem dX8_place_33 : decode cX8_place 33 = .ok (.invokestatic 116, 3) := by decide +kernel
theorem dX8_place_36 : decode cX8_place 36 = .ok (.ifCond .eq 6, 3) := by decide +kernel
theorem dX8_place_39 : decode cX8_place 39 = .ok (.bipush (-3), 2) := by decide +kernel
theorem dX8_place_41 : decode cX8_place 41 = .ok (.ireturn, 1) := by decide +kernel
theorem dX8_place_42 : decode cX8_place 42 = .ok (.iload_n 1, 1) := by decide +kernel
theorem dX8_place_43 : decode cX8_place 43 = .ok (.ifCond .ne 14, 3) := by decide +kernel
theorem dX8_place_46 : decode cX8_place 46 = .ok (.aload_n 0, 1) := by decide +kernel
theorem dX8_place_47 : decode cX8_place 47 = .ok (.getfield 19, 3) := by decide +kernel
theorem dX8_place_50 : decode cX8_place 50 = .ok (.iload_n 2, 1) := by decide +kernel
theorem dX8_place_51 : decode cX8_place 51 = .ok (.invokevirtual 120, 3) := by decide +kernel
theorem dX8_place_54 : decode cX8_place 54 = .ok (.goto 11, 3) := by decide +kernel
theorem dX8_place_57 : decode cX8_place 57 = .ok (.aload_n 0, 1) := by decide +kernel
theorem dX8_place_58 : decode cX8_place 58 = .ok (.getfield 19, 3) := by decide +kernel
theorem dX8_place_61 : decode cX8_place 61 = .ok (.iload_n 2, 1) := by decide +kernel
theorem dX8_place_62 : decode cX8_place 62 = .ok (.invokevirtual 123, 3) := by decide +kernel
theorem dX8_place_65 : decode cX8_place 65 = .ok (.ireturn, 1) := by decide +kernel
set_option maxRecDepth 20000 in
theorem ggX8_watch_X0_isCell : GoodIn wsX8_watch wsX0_isCell := goodIn_r _ [9, 10, 11, 12, 8, 13, 14, 15, 46, 47, 48, 49, 50, 51, 52, 53, 54, 55, 56, 57, 58] (by decide +kernel) (by decide +kernel)
set_option maxRecDepth 20000 in
theorem gX8_watch_X0_isCell : GoodIn wsX8_watch (wsV RX8 106 RX0 yX0_isCell wsX0_isCell) := goodIn_app (goodIn_of _ (by decide +kernel)) ggX8_watch_X0_isCell
set_option maxRecDepth 20000 in
theorem ggX8_watch_X8_within : GoodIn wsX8_watch wsX8_within := goodIn_r _ [19] (by decide +kernel) (by decide +kernel)
set_option maxRecDepth 20000 in
theorem gX8_watch_X8_within : GoodIn wsX8_watch (va_wsS RX8 61 yX8_within wsX8_within) := goodIn_app (goodIn_of _ (by decide +kernel)) ggX8_watch_X8_within
set_option maxRecDepth 20000 in
theorem ggX8_watch_X8_has : GoodIn wsX8_watch wsX8_has := goodIn_r _ [22] (by decide +kernel) (by decide +kernel)
set_option maxRecDepth 20000 in
theorem gX8_watch_X8_has : GoodIn wsX8_watch (va_wsS RX8 116 yX8_has wsX8_has) := goodIn_app (goodIn_of _ (by decide +kernel)) ggX8_watch_X8_has
set_option maxRecDepth 20000 in
theorem ggX8_watch_X4_add : GoodIn wsX8_watch wsX4_add := goodIn_r _ [27, 28, 29, 30, 31, 32, 33, 34, 26, 35, 36, 18, 37, 59, 60, 61, 62] (by decide +kernel) (by decide +kernel)
set_option maxRecDepth 20000 in
theorem gX8_watch_X4_add : GoodIn wsX8_watch (wsV RX8 130 RX4 yX4_add wsX4_add) := goodIn_app (goodIn_of _ (by decide +kernel)) ggX8_watch_X4_add
theorem dX8_watch_0 : decode cX8_watch 0 = .ok (.aload_n 0, 1) := by decide +kernel
theorem dX8_watch_1 : decode cX8_watch 1 = .ok (.getfield 19, 3) := by decide +kernel
theorem dX8_watch_4 : decode cX8_watch 4 = .ok (.iload_n 1, 1) := by decide +kernel
theorem dX8_watch_5 : decode cX8_watch 5 = .ok (.invokevirtual 106, 3) := by decide +kernel
theorem dX8_watch_8 : decode cX8_watch 8 = .ok (.ifCond .ne 5, 3) := by decide +kernel
theorem dX8_watch_11 : decode cX8_watch 11 = .ok (.iconst (-1), 1) := by decide +kernel
theorem dX8_watch_12 : decode cX8_watch 12 = .ok (.ireturn, 1) := by decide +kernel
theorem dX8_watch_13 : decode cX8_watch 13 = .ok (.iload_n 2, 1) := by decide +kernel
theorem dX8_watch_14 : decode cX8_watch 14 = .ok (.iconst 0, 1) := by decide +kernel
theorem dX8_watch_15 : decode cX8_watch 15 = .ok (.iconst 3, 1) := by decide +kernel
theorem dX8_watch_16 : decode cX8_watch 16 = .ok (.invokestatic 61, 3) := by decide +kernel
theorem dX8_watch_19 : decode cX8_watch 19 = .ok (.ifCond .ne 6, 3) := by decide +kernel
theorem dX8_watch_22 : decode cX8_watch 22 = .ok (.bipush (-2), 2) := by decide +kernel
theorem dX8_watch_24 : decode cX8_watch 24 = .ok (.ireturn, 1) := by decide +kernel
theorem dX8_watch_25 : decode cX8_watch 25 = .ok (.aload_n 0, 1) := by decide +kernel
theorem dX8_watch_26 : decode cX8_watch 26 = .ok (.getfield 19, 3) := by decide +kernel
theorem dX8_watch_29 : decode cX8_watch 29 = .ok (.getfield 113, 3) := by decide +kernel
theorem dX8_watch_32 : decode cX8_watch 32 = .ok (.iload_n 1, 1) := by decide +kernel
theorem dX8_watch_33 : decode cX8_watch 33 = .ok (.invokestatic 116, 3) := by decide +kernel
theorem dX8_watch_36 : decode cX8_watch 36 = .ok (.ifCond .eq 6, 3) := by decide +kernel
theorem dX8_watch_39 : decode cX8_watch 39 = .ok (.bipush (-3), 2) := by decide +kernel
theorem dX8_watch_41 : decode cX8_watch 41 = .ok (.ireturn, 1) := by decide +kernel
theorem dX8_watch_42 : decode cX8_watch 42 = .ok (.aload_n 0, 1) := by decide +kernel
theorem dX8_watch_43 : decode cX8_watch 43 = .ok (.getfield 19, 3) := by decide +kernel
theorem dX8_watch_46 : decode cX8_watch 46 = .ok (.getfield 126, 3) := by decide +kernel
theorem dX8_watch_49 : decode cX8_watch 49 = .ok (.iload_n 1, 1) := by decide +kernel
theorem dX8_watch_50 : decode cX8_watch 50 = .ok (.iload_n 2, 1) := by decide +kernel
theorem dX8_watch_51 : decode cX8_watch 51 = .ok (.iload_n 3, 1) := by decide +kernel
theorem dX8_watch_52 : decode cX8_watch 52 = .ok (.invokevirtual 130, 3) := by decide +kernel
theorem dX8_watch_55 : decode cX8_watch 55 = .ok (.ifCond .eq 16, 3) := by decide +kernel
theorem dX8_watch_58 : decode cX8_watch 58 = .ok (.aload_n 0, 1) := by decide +kernel
theorem dX8_watch_59 : decode cX8_watch 59 = .ok (.getfield 19, 3) := by decide +kernel
theorem dX8_watch_62 : decode cX8_watch 62 = .ok (.getfield 126, 3) := by decide +kernel
theorem dX8_watch_65 : decode cX8_watch 65 = .ok (.getfield 135, 3) := by decide +kernel
theorem dX8_watch_68 : decode cX8_watch 68 = .ok (.goto 5, 3) := by decide +kernel
theorem dX8_watch_71 : decode cX8_watch 71 = .ok (.bipush (-4), 2) := by decide +kernel
theorem dX8_watch_73 : decode cX8_watch 73 = .ok (.ireturn, 1) := by decide +kernel
set_option maxRecDepth 20000 in
theorem ggX8_dismiss_X4_clear : GoodIn wsX8_dismiss wsX4_clear := goodIn_r _ [7, 8, 30, 31, 32, 33] (by decide +kernel) (by decide +kernel)
set_option maxRecDepth 20000 in
theorem gX8_dismiss_X4_clear : GoodIn wsX8_dismiss (wsV RX8 138 RX4 yX4_clear wsX4_clear) := goodIn_app (goodIn_of _ (by decide +kernel)) ggX8_dismiss_X4_clear
theorem dX8_dismiss_0 : decode cX8_dismiss 0 = .ok (.aload_n 0, 1) := by decide +kernel
theorem dX8_dismiss_1 : decode cX8_dismiss 1 = .ok (.getfield 19, 3) := by decide +kernel
theorem dX8_dismiss_4 : decode cX8_dismiss 4 = .ok (.getfield 126, 3) := by decide +kernel
theorem dX8_dismiss_7 : decode cX8_dismiss 7 = .ok (.invokevirtual 138, 3) := by decide +kernel
theorem dX8_dismiss_10 : decode cX8_dismiss 10 = .ok (.ireturn, 1) := by decide +kernel
set_option maxRecDepth 20000 in
theorem ggX8_ears_X8_within : GoodIn wsX8_ears wsX8_within := goodIn_r _ [6] (by decide +kernel) (by decide +kernel)
set_option maxRecDepth 20000 in
theorem gX8_ears_X8_within : GoodIn wsX8_ears (va_wsS RX8 61 yX8_within wsX8_within) := goodIn_app (goodIn_of _ (by decide +kernel)) ggX8_ears_X8_within
theorem dX8_ears_0 : decode cX8_ears 0 = .ok (.iload_n 1, 1) := by decide +kernel
theorem dX8_ears_1 : decode cX8_ears 1 = .ok (.iconst 0, 1) := by decide +kernel
theorem dX8_ears_2 : decode cX8_ears 2 = .ok (.bipush 6, 2) := by decide +kernel
theorem dX8_ears_4 : decode cX8_ears 4 = .ok (.invokestatic 61, 3) := by decide +kernel
theorem dX8_ears_7 : decode cX8_ears 7 = .ok (.ifCond .ne 6, 3) := by decide +kernel
theorem dX8_ears_10 : decode cX8_ears 10 = .ok (.bipush (-2), 2) := by decide +kernel
theorem dX8_ears_12 : decode cX8_ears 12 = .ok (.ireturn, 1) := by decide +kernel
theorem dX8_ears_13 : decode cX8_ears 13 = .ok (.aload_n 0, 1) := by decide +kernel
theorem dX8_ears_14 : decode cX8_ears 14 = .ok (.getfield 19, 3) := by decide +kernel
theorem dX8_ears_17 : decode cX8_ears 17 = .ok (.getfield 139, 3) := by decide +kernel
theorem dX8_ears_20 : decode cX8_ears 20 = .ok (.istore_n 2, 1) := by decide +kernel
theorem dX8_ears_21 : decode cX8_ears 21 = .ok (.aload_n 0, 1) := by decide +kernel
theorem dX8_ears_22 : decode cX8_ears 22 = .ok (.getfield 19, 3) := by decide +kernel
theorem dX8_ears_25 : decode cX8_ears 25 = .ok (.iload_n 1, 1) := by decide +kernel
theorem dX8_ears_26 : decode cX8_ears 26 = .ok (.putfield 139, 3) := by decide +kernel
theorem dX8_ears_29 : decode cX8_ears 29 = .ok (.iload_n 2, 1) := by decide +kernel
theorem dX8_ears_30 : decode cX8_ears 30 = .ok (.ireturn, 1) := by decide +kernel
set_option maxRecDepth 20000 in
theorem ggX8_judge_X8_within : GoodIn wsX8_judge wsX8_within := goodIn_r _ [6] (by decide +kernel) (by decide +kernel)
set_option maxRecDepth 20000 in
theorem gX8_judge_X8_within : GoodIn wsX8_judge (va_wsS RX8 61 yX8_within wsX8_within) := goodIn_app (goodIn_of _ (by decide +kernel)) ggX8_judge_X8_within
set_option maxRecDepth 20000 in
theorem ggX8_judge_X8_followWalk : GoodIn wsX8_judge wsX8_followWalk := goodIn_r _ [10, 11, 1, 12, 13, 2, 14, 15, 16, 17, 18, 19, 20, 21, 22, 23, 24, 25, 26, 27, 28, 29, 30, 31, 32, 33, 34, 35, 36, 37, 38, 39, 40, 41, 42, 43, 44, 45, 46, 47, 48, 49, 50, 51, 52, 53, 54, 55, 56, 57, 58, 59, 60, 61, 62, 63, 64, 65, 66, 67, 68, 69, 70, 71, 72, 73, 74, 75, 76, 77, 78, 79, 80, 81, 82, 83, 84, 85, 86, 87, 88, 89, 90, 91, 92, 93, 94, 95, 96, 97, 98, 99, 100, 101, 102, 103, 104, 105, 106, 107, 108, 109, 110, 111, 112, 113, 114, 115, 116, 117, 118, 119, 120, 121, 122, 123, 124, 125, 126, 127, 128, 129, 130, 131, 132, 133, 134, 135, 136, 137, 138, 139, 140, 141, 142, 143, 144, 145, 146, 147, 148, 149, 150, 151, 5, 152, 153, 154, 155, 156, 157, 158, 159, 160, 161, 162, 163, 164, 165, 166, 167, 168, 169, 170, 171, 172, 173, 174, 175, 176, 177, 178, 179, 180, 181, 182, 183, 184, 185, 186, 187, 188, 189, 190, 191, 192, 193, 194, 195, 196, 197, 198, 199, 200, 201, 202, 203, 204, 205, 206, 207, 208, 209, 210, 211, 212, 213, 214, 215, 216, 217, 218, 219, 220, 221, 222, 223, 224, 225, 226, 227, 228, 229, 230, 231, 232, 233, 234, 235, 236, 237, 238, 239, 240, 241, 246, 247, 248, 249, 250, 251, 252, 253, 254, 255, 256, 257, 258, 259, 260, 261, 262, 263, 264, 265, 266, 267, 268, 269, 270, 271, 272, 273, 274, 275, 276, 277, 278, 279, 280, 281, 282, 283, 284, 285] (by decide +kernel) (by decide +kernel)
set_option maxRecDepth 20000 in
theorem gX8_judge_X8_followWalk : GoodIn wsX8_judge (wsV RX8 142 RX8 yX8_followWalk wsX8_followWalk) := goodIn_app (goodIn_of _ (by decide +kernel)) ggX8_judge_X8_followWalk
set_option maxRecDepth 20000 in
theorem ggX8_judge_X3_answer : GoodIn wsX8_judge wsX3_answer := goodIn_r _ [245, 131, 132, 133, 134, 126, 254, 255, 256, 257, 258, 259, 260] (by decide +kernel) (by decide +kernel)
set_option maxRecDepth 20000 in
theorem gX8_judge_X3_answer : GoodIn wsX8_judge (wsV RX8 148 RX3 yX3_answer wsX3_answer) := goodIn_app (goodIn_of _ (by decide +kernel)) ggX8_judge_X3_answer
theorem dX8_judge_0 : decode cX8_judge 0 = .ok (.iload_n 1, 1) := by decide +kernel
theorem dX8_judge_1 : decode cX8_judge 1 = .ok (.iconst 0, 1) := by decide +kernel
theorem dX8_judge_2 : decode cX8_judge 2 = .ok (.iconst 5, 1) := by decide +kernel
theorem dX8_judge_3 : decode cX8_judge 3 = .ok (.invokestatic 61, 3) := by decide +kernel
theorem dX8_judge_6 : decode cX8_judge 6 = .ok (.ifCond .ne 6, 3) := by decide +kernel
theorem dX8_judge_9 : decode cX8_judge 9 = .ok (.bipush (-2), 2) := by decide +kernel
theorem dX8_judge_11 : decode cX8_judge 11 = .ok (.ireturn, 1) := by decide +kernel
theorem dX8_judge_12 : decode cX8_judge 12 = .ok (.aload_n 0, 1) := by decide +kernel
theorem dX8_judge_13 : decode cX8_judge 13 = .ok (.invokevirtual 142, 3) := by decide +kernel
theorem dX8_judge_16 : decode cX8_judge 16 = .ok (.istore_n 2, 1) := by decide +kernel
theorem dX8_judge_17 : decode cX8_judge 17 = .ok (.iload_n 2, 1) := by decide +kernel
theorem dX8_judge_18 : decode cX8_judge 18 = .ok (.bipush (-5), 2) := by decide +kernel
theorem dX8_judge_20 : decode cX8_judge 20 = .ok (.if_icmp .ne 6, 3) := by decide +kernel
theorem dX8_judge_23 : decode cX8_judge 23 = .ok (.bipush (-5), 2) := by decide +kernel
theorem dX8_judge_25 : decode cX8_judge 25 = .ok (.ireturn, 1) := by decide +kernel
theorem dX8_judge_26 : decode cX8_judge 26 = .ok (.iload_n 1, 1) := by decide +kernel
theorem dX8_judge_27 : decode cX8_judge 27 = .ok (.ifCond .ne 11, 3) := by decide +kernel
theorem dX8_judge_30 : decode cX8_judge 30 = .ok (.aload_n 0, 1) := by decide +kernel
theorem dX8_judge_31 : decode cX8_judge 31 = .ok (.getfield 43, 3) := by decide +kernel
theorem dX8_judge_34 : decode cX8_judge 34 = .ok (.getfield 145, 3) := by decide +kernel
theorem dX8_judge_37 : decode cX8_judge 37 = .ok (.ireturn, 1) := by decide +kernel
theorem dX8_judge_38 : decode cX8_judge 38 = .ok (.iload_n 2, 1) := by decide +kernel
theorem dX8_judge_39 : decode cX8_judge 39 = .ok (.bipush (-3), 2) := by decide +kernel
theorem dX8_judge_41 : decode cX8_judge 41 = .ok (.if_icmp .ne 8, 3) := by decide +kernel
theorem dX8_judge_44 : decode cX8_judge 44 = .ok (.bipush (-3), 2) := by decide +kernel
theorem dX8_judge_46 : decode cX8_judge 46 = .ok (.goto 11, 3) := by decide +kernel
theorem dX8_judge_49 : decode cX8_judge 49 = .ok (.aload_n 0, 1) := by decide +kernel
theorem dX8_judge_50 : decode cX8_judge 50 = .ok (.getfield 43, 3) := by decide +kernel
theorem dX8_judge_53 : decode cX8_judge 53 = .ok (.iload_n 1, 1) := by decide +kernel
theorem dX8_judge_54 : decode cX8_judge 54 = .ok (.invokevirtual 148, 3) := by decide +kernel
theorem dX8_judge_57 : decode cX8_judge 57 = .ok (.ireturn, 1) := by decide +kernel
set_option maxRecDepth 20000 in
theorem ggX8_sees_X4_isOne : GoodIn wsX8_sees wsX4_isOne := goodIn_r _ [7, 8, 64, 65, 66, 67] (by decide +kernel) (by decide +kernel)
set_option maxRecDepth 20000 in
theorem gX8_sees_X4_isOne : GoodIn wsX8_sees (wsV RX8 151 RX4 yX4_isOne wsX4_isOne) := goodIn_app (goodIn_of _ (by decide +kernel)) ggX8_sees_X4_isOne
set_option maxRecDepth 20000 in
theorem ggX8_sees_X0_seenBy : GoodIn wsX8_sees wsX0_seenBy := goodIn_r _ [13, 14, 15, 16, 17, 6, 18, 19, 20, 21, 22, 23, 24, 25, 26, 27, 28, 29, 30, 12, 31, 32, 33, 34, 35, 36, 37, 38, 39, 40, 41, 42, 51, 52, 53, 54, 55, 56, 57, 58, 59, 60, 61, 62, 63, 64, 65, 66, 67] (by decide +kernel) (by decide +kernel)
set_option maxRecDepth 20000 in
theorem gX8_sees_X0_seenBy : GoodIn wsX8_sees (wsV RX8 154 RX0 yX0_seenBy wsX0_seenBy) := goodIn_app (goodIn_of _ (by decide +kernel)) ggX8_sees_X0_seenBy
theorem dX8_sees_0 : decode cX8_sees 0 = .ok (.aload_n 0, 1) := by decide +kernel
theorem dX8_sees_1 : decode cX8_sees 1 = .ok (.getfield 19, 3) := by decide +kernel
theorem dX8_sees_4 : decode cX8_sees 4 = .ok (.getfield 126, 3) := by decide +kernel
theorem dX8_sees_7 : decode cX8_sees 7 = .ok (.iload_n 1, 1) := by decide +kernel
theorem dX8_sees_8 : decode cX8_sees 8 = .ok (.invokevirtual 151, 3) := by decide +kernel
theorem dX8_sees_11 : decode cX8_sees 11 = .ok (.ifCond .eq 14, 3) := by decide +kernel
theorem dX8_sees_14 : decode cX8_sees 14 = .ok (.aload_n 0, 1) := by decide +kernel
theorem dX8_sees_15 : decode cX8_sees 15 = .ok (.getfield 19, 3) := by decide +kernel
theorem dX8_sees_18 : decode cX8_sees 18 = .ok (.iload_n 1, 1) := by decide +kernel
theorem dX8_sees_19 : decode cX8_sees 19 = .ok (.invokevirtual 154, 3) := by decide +kernel
theorem dX8_sees_22 : decode cX8_sees 22 = .ok (.goto 4, 3) := by decide +kernel
theorem dX8_sees_25 : decode cX8_sees 25 = .ok (.iconst (-1), 1) := by decide +kernel
theorem dX8_sees_26 : decode cX8_sees 26 = .ok (.ireturn, 1) := by decide +kernel
set_option maxRecDepth 20000 in
theorem ggX8_bare_X0_bareCells : GoodIn wsX8_bare wsX0_bareCells := goodIn_r _ [6, 7, 8, 9, 10, 11, 5, 12, 13, 14, 15, 16, 17, 18, 19, 20, 21, 22, 23, 24, 25, 26, 27, 28, 29, 30, 31, 32, 33, 34, 35, 36, 37, 38, 39, 40, 41, 42, 43, 44, 45, 46, 47, 48, 49, 50, 51, 52, 53, 54, 55, 56, 57, 58, 59, 60, 61, 62, 71, 72, 73, 74, 75, 76, 77, 78, 79, 80, 81, 82, 83, 84, 85, 86, 87] (by decide +kernel) (by decide +kernel)
set_option maxRecDepth 20000 in
theorem gX8_bare_X0_bareCells : GoodIn wsX8_bare (wsV RX8 157 RX0 yX0_bareCells wsX0_bareCells) := goodIn_app (goodIn_of _ (by decide +kernel)) ggX8_bare_X0_bareCells
theorem dX8_bare_0 : decode cX8_bare 0 = .ok (.aload_n 0, 1) := by decide +kernel
theorem dX8_bare_1 : decode cX8_bare 1 = .ok (.getfield 19, 3) := by decide +kernel
theorem dX8_bare_4 : decode cX8_bare 4 = .ok (.invokevirtual 157, 3) := by decide +kernel
theorem dX8_bare_7 : decode cX8_bare 7 = .ok (.ireturn, 1) := by decide +kernel
set_option maxRecDepth 20000 in
theorem ggX8_followWalk_X2_walkFault : GoodIn wsX8_followWalk wsX2_walkFault := goodIn_r _ [10, 11, 12, 13, 9, 14, 15, 16, 17, 18, 19, 20, 21, 22, 23, 24, 25, 26, 27, 28, 29, 30, 31, 32, 33, 34, 35, 36, 37, 38, 39, 40, 41, 42, 43, 44, 45, 46, 47, 48, 49, 50, 51, 52, 53, 54, 55, 56, 57, 58, 59, 60, 61, 62, 63, 64, 65, 66, 67, 68, 69, 70, 71, 72, 73, 74, 75, 76, 77, 78, 79, 80, 81, 82, 83, 84, 85, 86, 87, 88, 89, 90, 91, 92, 93, 94, 95, 96, 97, 98, 99, 100, 101, 102, 103, 104, 105, 106, 107, 108, 109, 250, 251] (by decide +kernel) (by decide +kernel)
set_option maxRecDepth 20000 in
theorem gX8_followWalk_X2_walkFault : GoodIn wsX8_followWalk (wsV RX8 88 RX2 yX2_walkFault wsX2_walkFault) := goodIn_app (goodIn_of _ (by decide +kernel)) ggX8_followWalk_X2_walkFault
set_option maxRecDepth 20000 in
theorem ggX8_followWalk_X3_follow : GoodIn wsX8_followWalk wsX3_follow := goodIn_r _ [114, 115, 116, 117, 118, 119, 120, 121, 113, 122, 123, 124, 125, 126, 127, 128, 129, 130, 131, 132, 133, 134, 135, 136, 137, 138, 139, 140, 141, 142, 143, 144, 145, 146, 147, 148, 149, 150, 151, 152, 153, 154, 155, 156, 157, 158, 159, 160, 161, 162, 163, 164, 165, 166, 167, 168, 169, 170, 171, 172, 173, 174, 175, 176, 177, 178, 179, 180, 181, 182, 183, 184, 185, 186, 187, 188, 189, 190, 191, 192, 193, 194, 195, 196, 9, 197, 16, 17, 18, 19, 15, 20, 21, 22, 23, 24, 25, 26, 27, 28, 29, 30, 31, 32, 33, 34, 35, 36, 37, 38, 39, 40, 41, 42, 43, 44, 45, 46, 47, 48, 49, 50, 51, 52, 53, 54, 55, 56, 57, 58, 59, 60, 61, 62, 63, 64, 65, 66, 67, 68, 69, 70, 71, 72, 73, 74, 75, 76, 77, 78, 79, 80, 81, 82, 83, 84, 85, 86, 87, 88, 89, 90, 91, 92, 93, 94, 95, 96, 97, 98, 99, 100, 101, 102, 103, 104, 105, 106, 107, 108, 109, 198, 199, 200, 201, 202, 203, 204, 205, 206, 207, 208, 209, 210, 211, 212, 213, 214, 215, 216, 217, 218, 219, 220, 221, 222, 223, 224, 225, 226, 227, 228, 229, 230, 231, 232, 233, 234, 250, 251, 243, 244, 245, 246, 247, 248, 249, 252, 253, 254, 255, 256, 257, 258, 259, 260, 261, 262, 263, 264, 265, 266, 267, 268, 269, 270, 271, 272, 273, 274] (by decide +kernel) (by decide +kernel)
set_option maxRecDepth 20000 in
theorem gX8_followWalk_X3_follow : GoodIn wsX8_followWalk (wsV RX8 160 RX3 yX3_follow wsX3_follow) := goodIn_app (goodIn_of _ (by decide +kernel)) ggX8_followWalk_X3_follow
theorem dX8_followWalk_0 : decode cX8_followWalk 0 = .ok (.aload_n 0, 1) := by decide +kernel
theorem dX8_followWalk_1 : decode cX8_followWalk 1 = .ok (.getfield 10, 3) := by decide +kernel
theorem dX8_followWalk_4 : decode cX8_followWalk 4 = .ok (.invokevirtual 88, 3) := by decide +kernel
theorem dX8_followWalk_7 : decode cX8_followWalk 7 = .ok (.bipush (-6), 2) := by decide +kernel
theorem dX8_followWalk_9 : decode cX8_followWalk 9 = .ok (.if_icmp .eq 6, 3) := by decide +kernel
theorem dX8_followWalk_12 : decode cX8_followWalk 12 = .ok (.bipush (-5), 2) := by decide +kernel
theorem dX8_followWalk_14 : decode cX8_followWalk 14 = .ok (.ireturn, 1) := by decide +kernel
theorem dX8_followWalk_15 : decode cX8_followWalk 15 = .ok (.aload_n 0, 1) := by decide +kernel
theorem dX8_followWalk_16 : decode cX8_followWalk 16 = .ok (.getfield 43, 3) := by decide +kernel
theorem dX8_followWalk_19 : decode cX8_followWalk 19 = .ok (.aload_n 0, 1) := by decide +kernel
theorem dX8_followWalk_20 : decode cX8_followWalk 20 = .ok (.getfield 19, 3) := by decide +kernel
theorem dX8_followWalk_23 : decode cX8_followWalk 23 = .ok (.aload_n 0, 1) := by decide +kernel
theorem dX8_followWalk_24 : decode cX8_followWalk 24 = .ok (.getfield 10, 3) := by decide +kernel
theorem dX8_followWalk_27 : decode cX8_followWalk 27 = .ok (.aload_n 0, 1) := by decide +kernel
theorem dX8_followWalk_28 : decode cX8_followWalk 28 = .ok (.getfield 36, 3) := by decide +kernel
theorem dX8_followWalk_31 : decode cX8_followWalk 31 = .ok (.invokevirtual 160, 3) := by decide +kernel
theorem dX8_followWalk_34 : decode cX8_followWalk 34 = .ok (.aload_n 0, 1) := by decide +kernel
theorem dX8_followWalk_35 : decode cX8_followWalk 35 = .ok (.getfield 43, 3) := by decide +kernel
theorem dX8_followWalk_38 : decode cX8_followWalk 38 = .ok (.getfield 145, 3) := by decide +kernel
theorem dX8_followWalk_41 : decode cX8_followWalk 41 = .ok (.bipush (-6), 2) := by decide +kernel
theorem dX8_followWalk_43 : decode cX8_followWalk 43 = .ok (.if_icmp .ne 7, 3) := by decide +kernel
theorem dX8_followWalk_46 : decode cX8_followWalk 46 = .ok (.iconst 0, 1) := by decide +kernel
theorem dX8_followWalk_47 : decode cX8_followWalk 47 = .ok (.goto 5, 3) := by decide +kernel
theorem dX8_followWalk_50 : decode cX8_followWalk 50 = .ok (.bipush (-3), 2) := by decide +kernel
theorem dX8_followWalk_52 : decode cX8_followWalk 52 = .ok (.ireturn, 1) := by decide +kernel
set_option maxRecDepth 20000 in
theorem ggX8_safe_X8_bit : GoodIn wsX8_safe wsX8_bit := goodIn_r _ [8] (by decide +kernel) (by decide +kernel)
set_option maxRecDepth 20000 in
theorem gX8_safe_X8_bit : GoodIn wsX8_safe (va_wsS RX8 167 yX8_bit wsX8_bit) := goodIn_app (goodIn_of _ (by decide +kernel)) ggX8_safe_X8_bit
set_option maxRecDepth 20000 in
theorem ggX8_safe_X0_bareCells : GoodIn wsX8_safe wsX0_bareCells := goodIn_r _ [13, 14, 15, 16, 17, 18, 12, 19, 20, 21, 22, 23, 24, 25, 26, 27, 28, 7, 29, 30, 31, 32, 33, 34, 35, 36, 37, 38, 39, 40, 41, 42, 43, 44, 45, 46, 47, 48, 49, 50, 51, 6, 8, 52, 53, 54, 55, 56, 57, 58, 59, 60, 61, 62, 63, 64, 65, 66, 154, 155, 156, 157, 158, 159, 160, 161, 162, 163, 164, 165, 166, 167, 168, 169, 170] (by decide +kernel) (by decide +kernel)
set_option maxRecDepth 20000 in
theorem gX8_safe_X0_bareCells : GoodIn wsX8_safe (wsV RX8 157 RX0 yX0_bareCells wsX0_bareCells) := goodIn_app (goodIn_of _ (by decide +kernel)) ggX8_safe_X0_bareCells
set_option maxRecDepth 20000 in
theorem ggX8_safe_X5_measure : GoodIn wsX8_safe wsX5_measure := goodIn_r _ [71, 72, 73, 64, 65, 12, 66, 52, 53, 54, 55, 56, 57, 20, 58, 171, 172, 154, 155, 156, 157, 158, 159, 160, 161, 162, 163, 164, 165, 166] (by decide +kernel) (by decide +kernel)
set_option maxRecDepth 20000 in
theorem gX8_safe_X5_measure : GoodIn wsX8_safe (wsV RX8 173 RX5 yX5_measure wsX5_measure) := goodIn_app (goodIn_of _ (by decide +kernel)) ggX8_safe_X5_measure
set_option maxRecDepth 20000 in
theorem ggX8_safe_X5_stepOnWay : GoodIn wsX8_safe wsX5_stepOnWay := goodIn_r _ [77, 72, 78, 68, 69, 70, 71, 73, 64, 65, 12, 66, 52, 53, 54, 55, 56, 57, 20, 58, 28, 7, 29, 79, 80, 81, 82, 83, 84, 85, 16, 17, 18, 19, 21, 86, 87, 88, 89, 90, 171, 172, 154, 155, 156, 157, 158, 159, 160, 161, 162, 163, 164, 165, 166] (by decide +kernel) (by decide +kernel)
set_option maxRecDepth 20000 in
theorem gX8_safe_X5_stepOnWay : GoodIn wsX8_safe (wsV RX8 177 RX5 yX5_stepOnWay wsX5_stepOnWay) := goodIn_app (goodIn_of _ (by decide +kernel)) ggX8_safe_X5_stepOnWay
set_option maxRecDepth 20000 in
theorem ggX8_safe_X8_signOfStep : GoodIn wsX8_safe wsX8_signOfStep := goodIn_r _ [93, 94, 95, 96, 97, 98, 99, 100, 101, 102, 103, 104, 105, 106, 107, 7, 108, 109, 110, 111, 112, 113, 114, 115, 116, 117, 118, 119, 120, 121, 122, 123, 124, 125, 126, 127, 128, 129, 130, 131, 132, 133, 134, 135, 136, 137, 138, 139, 140, 141, 142, 143, 144, 145] (by decide +kernel) (by decide +kernel)
set_option maxRecDepth 20000 in
theorem gX8_safe_X8_signOfStep : GoodIn wsX8_safe (va_wsS RX8 181 yX8_signOfStep wsX8_signOfStep) := goodIn_app (goodIn_of _ (by decide +kernel)) ggX8_safe_X8_signOfStep
theorem dX8_safe_0 : decode cX8_safe 0 = .ok (.aload_n 0, 1) := by decide +kernel
theorem dX8_safe_1 : decode cX8_safe 1 = .ok (.getfield 19, 3) := by decide +kernel
theorem dX8_safe_4 : decode cX8_safe 4 = .ok (.getfield 164, 3) := by decide +kernel
theorem dX8_safe_7 : decode cX8_safe 7 = .ok (.invokestatic 167, 3) := by decide +kernel
theorem dX8_safe_10 : decode cX8_safe 10 = .ok (.istore_n 2, 1) := by decide +kernel
theorem dX8_safe_11 : decode cX8_safe 11 = .ok (.aload_n 0, 1) := by decide +kernel
theorem dX8_safe_12 : decode cX8_safe 12 = .ok (.getfield 19, 3) := by decide +kernel
theorem dX8_safe_15 : decode cX8_safe 15 = .ok (.getfield 170, 3) := by decide +kernel
theorem dX8_safe_18 : decode cX8_safe 18 = .ok (.invokestatic 167, 3) := by decide +kernel
theorem dX8_safe_21 : decode cX8_safe 21 = .ok (.istore_n 3, 1) := by decide +kernel
theorem dX8_safe_22 : decode cX8_safe 22 = .ok (.aload_n 0, 1) := by decide +kernel
theorem dX8_safe_23 : decode cX8_safe 23 = .ok (.getfield 19, 3) := by decide +kernel
theorem dX8_safe_26 : decode cX8_safe 26 = .ok (.invokevirtual 157, 3) := by decide +kernel
theorem dX8_safe_29 : decode cX8_safe 29 = .ok (.iload_n 2, 1) := by decide +kernel
theorem dX8_safe_30 : decode cX8_safe 30 = .ok (.ior, 1) := by decide +kernel
theorem dX8_safe_31 : decode cX8_safe 31 = .ok (.istore 4, 2) := by decide +kernel
theorem dX8_safe_33 : decode cX8_safe 33 = .ok (.aload_n 0, 1) := by decide +kernel
theorem dX8_safe_34 : decode cX8_safe 34 = .ok (.getfield 50, 3) := by decide +kernel
theorem dX8_safe_37 : decode cX8_safe 37 = .ok (.aload_n 0, 1) := by decide +kernel
theorem dX8_safe_38 : decode cX8_safe 38 = .ok (.getfield 19, 3) := by decide +kernel
theorem dX8_safe_41 : decode cX8_safe 41 = .ok (.iload_n 2, 1) := by decide +kernel
theorem dX8_safe_42 : decode cX8_safe 42 = .ok (.iload_n 3, 1) := by decide +kernel
theorem dX8_safe_43 : decode cX8_safe 43 = .ok (.iload 4, 2) := by decide +kernel
theorem dX8_safe_45 : decode cX8_safe 45 = .ok (.invokevirtual 173, 3) := by decide +kernel
theorem dX8_safe_48 : decode cX8_safe 48 = .ok (.istore 5, 2) := by decide +kernel
theorem dX8_safe_50 : decode cX8_safe 50 = .ok (.iload 5, 2) := by decide +kernel
theorem dX8_safe_52 : decode cX8_safe 52 = .ok (.bipush (-6), 2) := by decide +kernel
theorem dX8_safe_54 : decode cX8_safe 54 = .ok (.if_icmp .ne 6, 3) := by decide +kernel
theorem dX8_safe_57 : decode cX8_safe 57 = .ok (.bipush (-6), 2) := by decide +kernel
theorem dX8_safe_59 : decode cX8_safe 59 = .ok (.ireturn, 1) := by decide +kernel
theorem dX8_safe_60 : decode cX8_safe 60 = .ok (.iload_n 1, 1) := by decide +kernel
theorem dX8_safe_61 : decode cX8_safe 61 = .ok (.iconst (-1), 1) := by decide +kernel
theorem dX8_safe_62 : decode cX8_safe 62 = .ok (.if_icmp .ne 8, 3) := by decide +kernel
theorem dX8_safe_65 : decode cX8_safe 65 = .ok (.iconst 2, 1) := by decide +kernel
theorem dX8_safe_66 : decode cX8_safe 66 = .ok (.iload 5, 2) := by decide +kernel
theorem dX8_safe_68 : decode cX8_safe 68 = .ok (.imul, 1) := by decide +kernel
theorem dX8_safe_69 : decode cX8_safe 69 = .ok (.ireturn, 1) := by decide +kernel
theorem dX8_safe_70 : decode cX8_safe 70 = .ok (.iload_n 1, 1) := by decide +kernel
theorem dX8_safe_71 : decode cX8_safe 71 = .ok (.ifCond .lt 11, 3) := by decide +kernel
theorem dX8_safe_74 : decode cX8_safe 74 = .ok (.iload_n 1, 1) := by decide +kernel
theorem dX8_safe_75 : decode cX8_safe 75 = .ok (.iconst 2, 1) := by decide +kernel
theorem dX8_safe_76 : decode cX8_safe 76 = .ok (.iload 5, 2) := by decide +kernel
theorem dX8_safe_78 : decode cX8_safe 78 = .ok (.imul, 1) := by decide +kernel
theorem dX8_safe_79 : decode cX8_safe 79 = .ok (.if_icmp .lt 6, 3) := by decide +kernel
theorem dX8_safe_82 : decode cX8_safe 82 = .ok (.bipush (-6), 2) := by decide +kernel
theorem dX8_safe_84 : decode cX8_safe 84 = .ok (.ireturn, 1) := by decide +kernel
theorem dX8_safe_85 : decode cX8_safe 85 = .ok (.iload_n 1, 1) := by decide +kernel
theorem dX8_safe_86 : decode cX8_safe 86 = .ok (.iload 5, 2) := by decide +kernel
theorem dX8_safe_88 : decode cX8_safe 88 = .ok (.if_icmp .ge 22, 3) := by decide +kernel
theorem dX8_safe_91 : decode cX8_safe 91 = .ok (.aload_n 0, 1) := by decide +kernel
theorem dX8_safe_92 : decode cX8_safe 92 = .ok (.getfield 50, 3) := by decide +kernel
theorem dX8_safe_95 : decode cX8_safe 95 = .ok (.aload_n 0, 1) := by decide +kernel
theorem dX8_safe_96 : decode cX8_safe 96 = .ok (.getfield 19, 3) := by decide +kernel
theorem dX8_safe_99 : decode cX8_safe 99 = .ok (.iload_n 2, 1) := by decide +kernel
theorem dX8_safe_100 : decode cX8_safe 100 = .ok (.iload_n 3, 1) := by decide +kernel
theorem dX8_safe_101 : decode cX8_safe 101 = .ok (.iload 4, 2) := by decide +kernel
theorem dX8_safe_103 : decode cX8_safe 103 = .ok (.iload_n 1, 1) := by decide +kernel
theorem dX8_safe_104 : decode cX8_safe 104 = .ok (.invokevirtual 177, 3) := by decide +kernel
theorem dX8_safe_107 : decode cX8_safe 107 = .ok (.goto 22, 3) := by decide +kernel
theorem dX8_safe_110 : decode cX8_safe 110 = .ok (.aload_n 0, 1) := by decide +kernel
theorem dX8_safe_111 : decode cX8_safe 111 = .ok (.getfield 50, 3) := by decide +kernel
theorem dX8_safe_114 : decode cX8_safe 114 = .ok (.aload_n 0, 1) := by decide +kernel
theorem dX8_safe_115 : decode cX8_safe 115 = .ok (.getfield 19, 3) := by decide +kernel
theorem dX8_safe_118 : decode cX8_safe 118 = .ok (.iload_n 3, 1) := by decide +kernel
theorem dX8_safe_119 : decode cX8_safe 119 = .ok (.iload_n 2, 1) := by decide +kernel
theorem dX8_safe_120 : decode cX8_safe 120 = .ok (.iload 4, 2) := by decide +kernel
theorem dX8_safe_122 : decode cX8_safe 122 = .ok (.iload_n 1, 1) := by decide +kernel
theorem dX8_safe_123 : decode cX8_safe 123 = .ok (.iload 5, 2) := by decide +kernel
theorem dX8_safe_125 : decode cX8_safe 125 = .ok (.isub, 1) := by decide +kernel
theorem dX8_safe_126 : decode cX8_safe 126 = .ok (.invokevirtual 177, 3) := by decide +kernel
theorem dX8_safe_129 : decode cX8_safe 129 = .ok (.istore 6, 2) := by decide +kernel
theorem dX8_safe_131 : decode cX8_safe 131 = .ok (.iload 6, 2) := by decide +kernel
theorem dX8_safe_133 : decode cX8_safe 133 = .ok (.invokestatic 181, 3) := by decide +kernel
theorem dX8_safe_136 : decode cX8_safe 136 = .ok (.ireturn, 1) := by decide +kernel
set_option maxRecDepth 20000 in
theorem ggX8_least_X8_within : GoodIn wsX8_least wsX8_within := goodIn_r _ [8] (by decide +kernel) (by decide +kernel)
set_option maxRecDepth 20000 in
theorem gX8_least_X8_within : GoodIn wsX8_least (va_wsS RX8 61 yX8_within wsX8_within) := goodIn_app (goodIn_of _ (by decide +kernel)) ggX8_least_X8_within
set_option maxRecDepth 20000 in
theorem ggX8_least_X8_bit : GoodIn wsX8_least wsX8_bit := goodIn_r _ [11] (by decide +kernel) (by decide +kernel)
set_option maxRecDepth 20000 in
theorem gX8_least_X8_bit : GoodIn wsX8_least (va_wsS RX8 167 yX8_bit wsX8_bit) := goodIn_app (goodIn_of _ (by decide +kernel)) ggX8_least_X8_bit
set_option maxRecDepth 20000 in
theorem ggX8_least_X0_open : GoodIn wsX8_least wsX0_open := goodIn_r _ [16, 17, 18, 124, 125, 126, 127, 128, 129, 130, 131, 132, 133, 134, 135, 136] (by decide +kernel) (by decide +kernel)
set_option maxRecDepth 20000 in
theorem gX8_least_X0_open : GoodIn wsX8_least (wsV RX8 98 RX0 yX0_open wsX0_open) := goodIn_app (goodIn_of _ (by decide +kernel)) ggX8_least_X0_open
set_option maxRecDepth 20000 in
theorem ggX8_least_X5_measure : GoodIn wsX8_least wsX5_measure := goodIn_r _ [23, 24, 25, 26, 27, 15, 28, 29, 30, 31, 32, 33, 34, 17, 35, 137, 138, 124, 125, 126, 127, 128, 129, 130, 131, 132, 133, 134, 135, 136] (by decide +kernel) (by decide +kernel)
set_option maxRecDepth 20000 in
theorem gX8_least_X5_measure : GoodIn wsX8_least (wsV RX8 173 RX5 yX5_measure wsX5_measure) := goodIn_app (goodIn_of _ (by decide +kernel)) ggX8_least_X5_measure
set_option maxRecDepth 20000 in
theorem ggX8_least_X5_fewestShowingSteps : GoodIn wsX8_least wsX5_fewestShowingSteps := goodIn_r _ [39, 40, 41, 24, 42, 13, 14, 15, 16, 17, 18, 43, 44, 45, 46, 47, 48, 49, 50, 51, 52, 53, 54, 55, 56, 7, 57, 58, 59, 60, 61, 62, 63, 64, 65, 66, 67, 68, 69, 70, 71, 72, 73, 74, 75, 76, 77, 78, 79, 10, 11, 29, 30, 31, 32, 33, 34, 35, 80, 81, 82, 83, 84, 26, 27, 28, 85, 86, 87, 88, 89, 90, 91, 22, 92, 93, 94, 95, 96, 97, 98, 99, 100, 101, 102, 103, 104, 105, 106, 107, 108, 109, 110, 111, 112, 113, 114, 115, 137, 138, 124, 125, 126, 127, 128, 129, 130, 131, 132, 133, 134, 135, 136, 139, 140, 141, 142] (by decide +kernel) (by decide +kernel)
set_option maxRecDepth 20000 in
theorem gX8_least_X5_fewestShowingSteps : GoodIn wsX8_least (wsV RX8 184 RX5 yX5_fewestShowingSteps wsX5_fewestShowingSteps) := goodIn_app (goodIn_of _ (by decide +kernel)) ggX8_least_X5_fewestShowingSteps
theorem dX8_least_0 : decode cX8_least 0 = .ok (.iload_n 1, 1) := by decide +kernel
theorem dX8_least_1 : decode cX8_least 1 = .ok (.iconst 0, 1) := by decide +kernel
theorem dX8_least_2 : decode cX8_least 2 = .ok (.iconst 1, 1) := by decide +kernel
theorem dX8_least_3 : decode cX8_least 3 = .ok (.invokestatic 61, 3) := by decide +kernel
theorem dX8_least_6 : decode cX8_least 6 = .ok (.ifCond .ne 6, 3) := by decide +kernel
theorem dX8_least_9 : decode cX8_least 9 = .ok (.bipush (-2), 2) := by decide +kernel
theorem dX8_least_11 : decode cX8_least 11 = .ok (.ireturn, 1) := by decide +kernel
theorem dX8_least_12 : decode cX8_least 12 = .ok (.aload_n 0, 1) := by decide +kernel
theorem dX8_least_13 : decode cX8_least 13 = .ok (.getfield 50, 3) := by decide +kernel
theorem dX8_least_16 : decode cX8_least 16 = .ok (.aload_n 0, 1) := by decide +kernel
theorem dX8_least_17 : decode cX8_least 17 = .ok (.getfield 19, 3) := by decide +kernel
theorem dX8_least_20 : decode cX8_least 20 = .ok (.aload_n 0, 1) := by decide +kernel
theorem dX8_least_21 : decode cX8_least 21 = .ok (.getfield 19, 3) := by decide +kernel
theorem dX8_least_24 : decode cX8_least 24 = .ok (.getfield 170, 3) := by decide +kernel
theorem dX8_least_27 : decode cX8_least 27 = .ok (.invokestatic 167, 3) := by decide +kernel
theorem dX8_least_30 : decode cX8_least 30 = .ok (.aload_n 0, 1) := by decide +kernel
theorem dX8_least_31 : decode cX8_least 31 = .ok (.getfield 19, 3) := by decide +kernel
theorem dX8_least_34 : decode cX8_least 34 = .ok (.getfield 164, 3) := by decide +kernel
theorem dX8_least_37 : decode cX8_least 37 = .ok (.invokestatic 167, 3) := by decide +kernel
theorem dX8_least_40 : decode cX8_least 40 = .ok (.aload_n 0, 1) := by decide +kernel
theorem dX8_least_41 : decode cX8_least 41 = .ok (.getfield 19, 3) := by decide +kernel
theorem dX8_least_44 : decode cX8_least 44 = .ok (.invokevirtual 98, 3) := by decide +kernel
theorem dX8_least_47 : decode cX8_least 47 = .ok (.invokevirtual 173, 3) := by decide +kernel
theorem dX8_least_50 : decode cX8_least 50 = .ok (.istore_n 2, 1) := by decide +kernel
theorem dX8_least_51 : decode cX8_least 51 = .ok (.iload_n 2, 1) := by decide +kernel
theorem dX8_least_52 : decode cX8_least 52 = .ok (.bipush (-6), 2) := by decide +kernel
theorem dX8_least_54 : decode cX8_least 54 = .ok (.if_icmp .ne 6, 3) := by decide +kernel
theorem dX8_least_57 : decode cX8_least 57 = .ok (.bipush (-6), 2) := by decide +kernel
theorem dX8_least_59 : decode cX8_least 59 = .ok (.ireturn, 1) := by decide +kernel
theorem dX8_least_60 : decode cX8_least 60 = .ok (.iload_n 1, 1) := by decide +kernel
theorem dX8_least_61 : decode cX8_least 61 = .ok (.iconst 1, 1) := by decide +kernel
theorem dX8_least_62 : decode cX8_least 62 = .ok (.if_icmp .ne 9, 3) := by decide +kernel
theorem dX8_least_65 : decode cX8_least 65 = .ok (.iconst 2, 1) := by decide +kernel
theorem dX8_least_66 : decode cX8_least 66 = .ok (.iload_n 2, 1) := by decide +kernel
theorem dX8_least_67 : decode cX8_least 67 = .ok (.imul, 1) := by decide +kernel
theorem dX8_least_68 : decode cX8_least 68 = .ok (.goto 15, 3) := by decide +kernel
theorem dX8_least_71 : decode cX8_least 71 = .ok (.aload_n 0, 1) := by decide +kernel
theorem dX8_least_72 : decode cX8_least 72 = .ok (.getfield 50, 3) := by decide +kernel
theorem dX8_least_75 : decode cX8_least 75 = .ok (.aload_n 0, 1) := by decide +kernel
theorem dX8_least_76 : decode cX8_least 76 = .ok (.getfield 19, 3) := by decide +kernel
theorem dX8_least_79 : decode cX8_least 79 = .ok (.iload_n 2, 1) := by decide +kernel
theorem dX8_least_80 : decode cX8_least 80 = .ok (.invokevirtual 184, 3) := by decide +kernel
theorem dX8_least_83 : decode cX8_least 83 = .ok (.ireturn, 1) := by decide +kernel
set_option maxRecDepth 20000 in
theorem ggX8_flour_X8_within : GoodIn wsX8_flour wsX8_within := goodIn_r _ [6] (by decide +kernel) (by decide +kernel)
set_option maxRecDepth 20000 in
theorem gX8_flour_X8_within : GoodIn wsX8_flour (va_wsS RX8 61 yX8_within wsX8_within) := goodIn_app (goodIn_of _ (by decide +kernel)) ggX8_flour_X8_within
set_option maxRecDepth 20000 in
theorem ggX8_flour_X5_fewestCut : GoodIn wsX8_flour wsX5_fewestCut := goodIn_r _ [11, 12, 13, 14, 15, 16, 17, 18, 19, 5, 20, 21, 22, 23, 24, 25, 26, 27, 28, 29, 30, 31, 32, 33, 34, 35, 36, 10, 37, 38, 39, 40, 41, 42, 43, 44, 45, 46, 62, 63, 64, 65, 66, 67, 68, 69, 70, 71, 72, 73, 74] (by decide +kernel) (by decide +kernel)
set_option maxRecDepth 20000 in
theorem gX8_flour_X5_fewestCut : GoodIn wsX8_flour (wsV RX8 188 RX5 yX5_fewestCut wsX5_fewestCut) := goodIn_app (goodIn_of _ (by decide +kernel)) ggX8_flour_X5_fewestCut
set_option maxRecDepth 20000 in
theorem ggX8_flour_J6_bitCount_0f7a4 : GoodIn wsX8_flour wsJ6_bitCount_0f7a4 := goodIn_r _ [50, 51, 52, 53] (by decide +kernel) (by decide +kernel)
set_option maxRecDepth 20000 in
theorem gX8_flour_J6_bitCount_0f7a4 : GoodIn wsX8_flour (va_wsS RX8 101 yJ6_bitCount_0f7a4 wsJ6_bitCount_0f7a4) := goodIn_app (goodIn_of _ (by decide +kernel)) ggX8_flour_J6_bitCount_0f7a4
theorem dX8_flour_0 : decode cX8_flour 0 = .ok (.iload_n 1, 1) := by decide +kernel
theorem dX8_flour_1 : decode cX8_flour 1 = .ok (.iconst 0, 1) := by decide +kernel
theorem dX8_flour_2 : decode cX8_flour 2 = .ok (.iconst 1, 1) := by decide +kernel
theorem dX8_flour_3 : decode cX8_flour 3 = .ok (.invokestatic 61, 3) := by decide +kernel
theorem dX8_flour_6 : decode cX8_flour 6 = .ok (.ifCond .ne 6, 3) := by decide +kernel
theorem dX8_flour_9 : decode cX8_flour 9 = .ok (.bipush (-2), 2) := by decide +kernel
theorem dX8_flour_11 : decode cX8_flour 11 = .ok (.ireturn, 1) := by decide +kernel
theorem dX8_flour_12 : decode cX8_flour 12 = .ok (.aload_n 0, 1) := by decide +kernel
theorem dX8_flour_13 : decode cX8_flour 13 = .ok (.getfield 50, 3) := by decide +kernel
theorem dX8_flour_16 : decode cX8_flour 16 = .ok (.aload_n 0, 1) := by decide +kernel
theorem dX8_flour_17 : decode cX8_flour 17 = .ok (.getfield 19, 3) := by decide +kernel
theorem dX8_flour_20 : decode cX8_flour 20 = .ok (.invokevirtual 188, 3) := by decide +kernel
theorem dX8_flour_23 : decode cX8_flour 23 = .ok (.istore_n 2, 1) := by decide +kernel
theorem dX8_flour_24 : decode cX8_flour 24 = .ok (.iload_n 2, 1) := by decide +kernel
theorem dX8_flour_25 : decode cX8_flour 25 = .ok (.bipush (-6), 2) := by decide +kernel
theorem dX8_flour_27 : decode cX8_flour 27 = .ok (.if_icmp .ne 6, 3) := by decide +kernel
theorem dX8_flour_30 : decode cX8_flour 30 = .ok (.bipush (-6), 2) := by decide +kernel
theorem dX8_flour_32 : decode cX8_flour 32 = .ok (.ireturn, 1) := by decide +kernel
theorem dX8_flour_33 : decode cX8_flour 33 = .ok (.iload_n 1, 1) := by decide +kernel
theorem dX8_flour_34 : decode cX8_flour 34 = .ok (.ifCond .ne 10, 3) := by decide +kernel
theorem dX8_flour_37 : decode cX8_flour 37 = .ok (.iload_n 2, 1) := by decide +kernel
theorem dX8_flour_38 : decode cX8_flour 38 = .ok (.invokestatic 101, 3) := by decide +kernel
theorem dX8_flour_41 : decode cX8_flour 41 = .ok (.goto 4, 3) := by decide +kernel
theorem dX8_flour_44 : decode cX8_flour 44 = .ok (.iload_n 2, 1) := by decide +kernel
theorem dX8_flour_45 : decode cX8_flour 45 = .ok (.ireturn, 1) := by decide +kernel
set_option maxRecDepth 20000 in
theorem ggX8_post_X8_within : GoodIn wsX8_post wsX8_within := goodIn_r _ [6] (by decide +kernel) (by decide +kernel)
set_option maxRecDepth 20000 in
theorem gX8_post_X8_within : GoodIn wsX8_post (va_wsS RX8 61 yX8_within wsX8_within) := goodIn_app (goodIn_of _ (by decide +kernel)) ggX8_post_X8_within
set_option maxRecDepth 20000 in
theorem ggX8_post_X4_isFull : GoodIn wsX8_post wsX4_isFull := goodIn_r _ [11, 12, 118, 119, 120, 121] (by decide +kernel) (by decide +kernel)
set_option maxRecDepth 20000 in
theorem gX8_post_X4_isFull : GoodIn wsX8_post (wsV RX8 192 RX4 yX4_isFull wsX4_isFull) := goodIn_app (goodIn_of _ (by decide +kernel)) ggX8_post_X4_isFull
set_option maxRecDepth 20000 in
theorem ggX8_post_X0_bareCells : GoodIn wsX8_post wsX0_bareCells := goodIn_r _ [17, 18, 19, 20, 21, 22, 16, 23, 24, 25, 26, 27, 28, 10, 29, 30, 31, 5, 32, 33, 34, 35, 36, 37, 38, 39, 40, 41, 42, 43, 44, 45, 46, 47, 48, 49, 50, 51, 52, 53, 54, 55, 56, 57, 58, 59, 60, 61, 62, 63, 64, 65, 66, 67, 68, 69, 70, 71, 105, 106, 107, 108, 109, 110, 111, 112, 113, 114, 115, 116, 117, 118, 119, 120, 121] (by decide +kernel) (by decide +kernel)
set_option maxRecDepth 20000 in
theorem gX8_post_X0_bareCells : GoodIn wsX8_post (wsV RX8 157 RX0 yX0_bareCells wsX0_bareCells) := goodIn_app (goodIn_of _ (by decide +kernel)) ggX8_post_X0_bareCells
set_option maxRecDepth 20000 in
theorem ggX8_post_X8_bestPost : GoodIn wsX8_post wsX8_bestPost := goodIn_r _ [75, 1, 76, 77, 78, 79, 16, 80, 81, 61, 82, 83, 5, 84, 85, 86, 87, 88, 89, 44, 45, 46, 47, 48, 49, 50, 51, 52, 53, 54, 25, 55, 56, 57, 58, 59, 60, 62, 24, 63, 64, 65, 66, 67, 68, 69, 70, 71, 90, 91, 92, 93, 94, 95, 96, 97, 98, 99, 100, 101, 102, 103, 104, 105, 106, 107, 108, 109, 110, 111, 112, 113, 114, 115, 116, 117] (by decide +kernel) (by decide +kernel)
set_option maxRecDepth 20000 in
theorem gX8_post_X8_bestPost : GoodIn wsX8_post (wsV RX8 196 RX8 yX8_bestPost wsX8_bestPost) := goodIn_app (goodIn_of _ (by decide +kernel)) ggX8_post_X8_bestPost
set_option maxRecDepth 20000 in
theorem ggX8_post_X8_bareWith : GoodIn wsX8_post wsX8_bareWith := goodIn_r _ [88, 1, 89, 44, 45, 16, 46, 47, 48, 49, 50, 51, 52, 53, 54, 25, 55, 5, 56, 57, 58, 59, 60, 61, 62, 24, 63, 64, 65, 66, 67, 68, 69, 70, 71, 90, 91, 92, 93, 94, 95, 96, 97, 98, 99, 100, 101, 102, 103, 104, 105, 106, 107, 108, 109, 110, 111, 112, 113, 114, 115, 116, 117] (by decide +kernel) (by decide +kernel)
set_option maxRecDepth 20000 in
theorem gX8_post_X8_bareWith : GoodIn wsX8_post (wsV RX8 199 RX8 yX8_bareWith wsX8_bareWith) := goodIn_app (goodIn_of _ (by decide +kernel)) ggX8_post_X8_bareWith
theorem dX8_post_0 : decode cX8_post 0 = .ok (.iload_n 1, 1) := by decide +kernel
theorem dX8_post_1 : decode cX8_post 1 = .ok (.iconst 0, 1) := by decide +kernel
theorem dX8_post_2 : decode cX8_post 2 = .ok (.iconst 1, 1) := by decide +kernel
theorem dX8_post_3 : decode cX8_post 3 = .ok (.invokestatic 61, 3) := by decide +kernel
theorem dX8_post_6 : decode cX8_post 6 = .ok (.ifCond .ne 6, 3) := by decide +kernel
theorem dX8_post_9 : decode cX8_post 9 = .ok (.bipush (-2), 2) := by decide +kernel
theorem dX8_post_11 : decode cX8_post 11 = .ok (.ireturn, 1) := by decide +kernel
theorem dX8_post_12 : decode cX8_post 12 = .ok (.aload_n 0, 1) := by decide +kernel
theorem dX8_post_13 : decode cX8_post 13 = .ok (.getfield 19, 3) := by decide +kernel
theorem dX8_post_16 : decode cX8_post 16 = .ok (.getfield 126, 3) := by decide +kernel
theorem dX8_post_19 : decode cX8_post 19 = .ok (.invokevirtual 192, 3) := by decide +kernel
theorem dX8_post_22 : decode cX8_post 22 = .ok (.ifCond .eq 6, 3) := by decide +kernel
theorem dX8_post_25 : decode cX8_post 25 = .ok (.bipush (-4), 2) := by decide +kernel
theorem dX8_post_27 : decode cX8_post 27 = .ok (.ireturn, 1) := by decide +kernel
theorem dX8_post_28 : decode cX8_post 28 = .ok (.aload_n 0, 1) := by decide +kernel
theorem dX8_post_29 : decode cX8_post 29 = .ok (.getfield 19, 3) := by decide +kernel
theorem dX8_post_32 : decode cX8_post 32 = .ok (.invokevirtual 157, 3) := by decide +kernel
theorem dX8_post_35 : decode cX8_post 35 = .ok (.istore_n 2, 1) := by decide +kernel
theorem dX8_post_36 : decode cX8_post 36 = .ok (.aload_n 0, 1) := by decide +kernel
theorem dX8_post_37 : decode cX8_post 37 = .ok (.iload_n 2, 1) := by decide +kernel
theorem dX8_post_38 : decode cX8_post 38 = .ok (.invokevirtual 196, 3) := by decide +kernel
theorem dX8_post_41 : decode cX8_post 41 = .ok (.istore_n 3, 1) := by decide +kernel
theorem dX8_post_42 : decode cX8_post 42 = .ok (.iload_n 1, 1) := by decide +kernel
theorem dX8_post_43 : decode cX8_post 43 = .ok (.ifCond .ne 7, 3) := by decide +kernel
theorem dX8_post_46 : decode cX8_post 46 = .ok (.iload_n 3, 1) := by decide +kernel
theorem dX8_post_47 : decode cX8_post 47 = .ok (.goto 9, 3) := by decide +kernel
theorem dX8_post_50 : decode cX8_post 50 = .ok (.aload_n 0, 1) := by decide +kernel
theorem dX8_post_51 : decode cX8_post 51 = .ok (.iload_n 2, 1) := by decide +kernel
theorem dX8_post_52 : decode cX8_post 52 = .ok (.iload_n 3, 1) := by decide +kernel
theorem dX8_post_53 : decode cX8_post 53 = .ok (.invokevirtual 199, 3) := by decide +kernel
theorem dX8_post_56 : decode cX8_post 56 = .ok (.ireturn, 1) := by decide +kernel
set_option maxRecDepth 20000 in
theorem ggX8_bestPost_X0_cells : GoodIn wsX8_bestPost wsX0_cells := goodIn_r _ [7, 8, 9, 63, 64, 65, 66, 67, 68, 69, 70, 71, 72, 73, 74, 75] (by decide +kernel) (by decide +kernel)
set_option maxRecDepth 20000 in
theorem gX8_bestPost_X0_cells : GoodIn wsX8_bestPost (wsV RX8 69 RX0 yX0_cells wsX0_cells) := goodIn_app (goodIn_of _ (by decide +kernel)) ggX8_bestPost_X0_cells
set_option maxRecDepth 20000 in
theorem ggX8_bestPost_X8_has : GoodIn wsX8_bestPost wsX8_has := goodIn_r _ [13] (by decide +kernel) (by decide +kernel)
set_option maxRecDepth 20000 in
theorem gX8_bestPost_X8_has : GoodIn wsX8_bestPost (va_wsS RX8 116 yX8_has wsX8_has) := goodIn_app (goodIn_of _ (by decide +kernel)) ggX8_bestPost_X8_has
set_option maxRecDepth 20000 in
theorem ggX8_bestPost_X8_bareWith : GoodIn wsX8_bestPost wsX8_bareWith := goodIn_r _ [17, 1, 18, 19, 20, 6, 21, 22, 23, 24, 25, 26, 27, 28, 29, 30, 31, 12, 32, 33, 34, 35, 36, 9, 37, 38, 39, 40, 41, 42, 43, 44, 45, 46, 47, 48, 49, 50, 51, 52, 53, 54, 55, 56, 57, 58, 59, 60, 61, 62, 63, 64, 65, 66, 67, 68, 69, 70, 71, 72, 73, 74, 75] (by decide +kernel) (by decide +kernel)
set_option maxRecDepth 20000 in
theorem gX8_bestPost_X8_bareWith : GoodIn wsX8_bestPost (wsV RX8 199 RX8 yX8_bareWith wsX8_bareWith) := goodIn_app (goodIn_of _ (by decide +kernel)) ggX8_bestPost_X8_bareWith
theorem dX8_bestPost_0 : decode cX8_bestPost 0 = .ok (.bipush (-6), 2) := by decide +kernel
theorem dX8_bestPost_2 : decode cX8_bestPost 2 = .ok (.istore_n 2, 1) := by decide +kernel
theorem dX8_bestPost_3 : decode cX8_bestPost 3 = .ok (.bipush 17, 2) := by decide +kernel
theorem dX8_bestPost_5 : decode cX8_bestPost 5 = .ok (.istore_n 3, 1) := by decide +kernel
theorem dX8_bestPost_6 : decode cX8_bestPost 6 = .ok (.iconst 0, 1) := by decide +kernel
theorem dX8_bestPost_7 : decode cX8_bestPost 7 = .ok (.istore 4, 2) := by decide +kernel
theorem dX8_bestPost_9 : decode cX8_bestPost 9 = .ok (.iload 4, 2) := by decide +kernel
theorem dX8_bestPost_11 : decode cX8_bestPost 11 = .ok (.iconst 4, 1) := by decide +kernel
theorem dX8_bestPost_12 : decode cX8_bestPost 12 = .ok (.aload_n 0, 1) := by decide +kernel
theorem dX8_bestPost_13 : decode cX8_bestPost 13 = .ok (.getfield 19, 3) := by decide +kernel
theorem dX8_bestPost_16 : decode cX8_bestPost 16 = .ok (.invokevirtual 69, 3) := by decide +kernel
theorem dX8_bestPost_19 : decode cX8_bestPost 19 = .ok (.imul, 1) := by decide +kernel
theorem dX8_bestPost_20 : decode cX8_bestPost 20 = .ok (.if_icmp .ge 51, 3) := by decide +kernel
theorem dX8_bestPost_23 : decode cX8_bestPost 23 = .ok (.aload_n 0, 1) := by decide +kernel
theorem dX8_bestPost_24 : decode cX8_bestPost 24 = .ok (.getfield 19, 3) := by decide +kernel
theorem dX8_bestPost_27 : decode cX8_bestPost 27 = .ok (.getfield 113, 3) := by decide +kernel
theorem dX8_bestPost_30 : decode cX8_bestPost 30 = .ok (.iload 4, 2) := by decide +kernel
theorem dX8_bestPost_32 : decode cX8_bestPost 32 = .ok (.iconst 4, 1) := by decide +kernel
theorem dX8_bestPost_33 : decode cX8_bestPost 33 = .ok (.idiv, 1) := by decide +kernel
theorem dX8_bestPost_34 : decode cX8_bestPost 34 = .ok (.invokestatic 116, 3) := by decide +kernel
theorem dX8_bestPost_37 : decode cX8_bestPost 37 = .ok (.ifCond .eq 7, 3) := by decide +kernel
theorem dX8_bestPost_40 : decode cX8_bestPost 40 = .ok (.iload_n 3, 1) := by decide +kernel
theorem dX8_bestPost_41 : decode cX8_bestPost 41 = .ok (.goto 10, 3) := by decide +kernel
theorem dX8_bestPost_44 : decode cX8_bestPost 44 = .ok (.aload_n 0, 1) := by decide +kernel
theorem dX8_bestPost_45 : decode cX8_bestPost 45 = .ok (.iload_n 1, 1) := by decide +kernel
theorem dX8_bestPost_46 : decode cX8_bestPost 46 = .ok (.iload 4, 2) := by decide +kernel
theorem dX8_bestPost_48 : decode cX8_bestPost 48 = .ok (.invokevirtual 199, 3) := by decide +kernel
theorem dX8_bestPost_51 : decode cX8_bestPost 51 = .ok (.istore 5, 2) := by decide +kernel
theorem dX8_bestPost_53 : decode cX8_bestPost 53 = .ok (.iload 5, 2) := by decide +kernel
theorem dX8_bestPost_55 : decode cX8_bestPost 55 = .ok (.iload_n 3, 1) := by decide +kernel
theorem dX8_bestPost_56 : decode cX8_bestPost 56 = .ok (.if_icmp .ge 9, 3) := by decide +kernel
theorem dX8_bestPost_59 : decode cX8_bestPost 59 = .ok (.iload 5, 2) := by decide +kernel
theorem dX8_bestPost_61 : decode cX8_bestPost 61 = .ok (.istore_n 3, 1) := by decide +kernel
theorem dX8_bestPost_62 : decode cX8_bestPost 62 = .ok (.iload 4, 2) := by decide +kernel
theorem dX8_bestPost_64 : decode cX8_bestPost 64 = .ok (.istore_n 2, 1) := by decide +kernel
theorem dX8_bestPost_65 : decode cX8_bestPost 65 = .ok (.iinc 4 1, 3) := by decide +kernel
theorem dX8_bestPost_68 : decode cX8_bestPost 68 = .ok (.goto (-59), 3) := by decide +kernel
theorem dX8_bestPost_71 : decode cX8_bestPost 71 = .ok (.iload_n 2, 1) := by decide +kernel
theorem dX8_bestPost_72 : decode cX8_bestPost 72 = .ok (.ireturn, 1) := by decide +kernel
set_option maxRecDepth 20000 in
theorem ggX8_bareWith_X0_spoiledFrom : GoodIn wsX8_bareWith wsX0_spoiledFrom := goodIn_r _ [6, 7, 8, 9, 10, 11, 12, 13, 5, 14, 15, 16, 17, 18, 19, 20, 21, 22, 23, 24, 25, 26, 27, 28, 29, 30, 31, 32, 33, 34, 50, 51, 52, 53, 54, 55, 56, 57, 58, 59, 60, 61, 62] (by decide +kernel) (by decide +kernel)
set_option maxRecDepth 20000 in
theorem gX8_bareWith_X0_spoiledFrom : GoodIn wsX8_bareWith (wsV RX8 203 RX0 yX0_spoiledFrom wsX0_spoiledFrom) := goodIn_app (goodIn_of _ (by decide +kernel)) ggX8_bareWith_X0_spoiledFrom
set_option maxRecDepth 20000 in
theorem ggX8_bareWith_J6_bitCount_0f7a4 : GoodIn wsX8_bareWith wsJ6_bitCount_0f7a4 := goodIn_r _ [38, 39, 40, 41] (by decide +kernel) (by decide +kernel)
set_option maxRecDepth 20000 in
theorem gX8_bareWith_J6_bitCount_0f7a4 : GoodIn wsX8_bareWith (va_wsS RX8 101 yJ6_bitCount_0f7a4 wsJ6_bitCount_0f7a4) := goodIn_app (goodIn_of _ (by decide +kernel)) ggX8_bareWith_J6_bitCount_0f7a4
theorem dX8_bareWith_0 : decode cX8_bareWith 0 = .ok (.iload_n 1, 1) := by decide +kernel
theorem dX8_bareWith_1 : decode cX8_bareWith 1 = .ok (.aload_n 0, 1) := by decide +kernel
theorem dX8_bareWith_2 : decode cX8_bareWith 2 = .ok (.getfield 19, 3) := by decide +kernel
theorem dX8_bareWith_5 : decode cX8_bareWith 5 = .ok (.iload_n 2, 1) := by decide +kernel
theorem dX8_bareWith_6 : decode cX8_bareWith 6 = .ok (.iconst 4, 1) := by decide +kernel
theorem dX8_bareWith_7 : decode cX8_bareWith 7 = .ok (.idiv, 1) := by decide +kernel
theorem dX8_bareWith_8 : decode cX8_bareWith 8 = .ok (.iload_n 2, 1) := by decide +kernel
theorem dX8_bareWith_9 : decode cX8_bareWith 9 = .ok (.iconst 4, 1) := by decide +kernel
theorem dX8_bareWith_10 : decode cX8_bareWith 10 = .ok (.irem, 1) := by decide +kernel
theorem dX8_bareWith_11 : decode cX8_bareWith 11 = .ok (.iconst 0, 1) := by decide +kernel
theorem dX8_bareWith_12 : decode cX8_bareWith 12 = .ok (.invokevirtual 203, 3) := by decide +kernel
theorem dX8_bareWith_15 : decode cX8_bareWith 15 = .ok (.iconst (-1), 1) := by decide +kernel
theorem dX8_bareWith_16 : decode cX8_bareWith 16 = .ok (.ixor, 1) := by decide +kernel
theorem dX8_bareWith_17 : decode cX8_bareWith 17 = .ok (.iand, 1) := by decide +kernel
theorem dX8_bareWith_18 : decode cX8_bareWith 18 = .ok (.invokestatic 101, 3) := by decide +kernel
theorem dX8_bareWith_21 : decode cX8_bareWith 21 = .ok (.ireturn, 1) := by decide +kernel
set_option maxRecDepth 20000 in
theorem ggX8_meet_X8_within : GoodIn wsX8_meet wsX8_within := goodIn_r _ [4] (by decide +kernel) (by decide +kernel)
set_option maxRecDepth 20000 in
theorem gX8_meet_X8_within : GoodIn wsX8_meet (va_wsS RX8 61 yX8_within wsX8_within) := goodIn_app (goodIn_of _ (by decide +kernel)) ggX8_meet_X8_within
set_option maxRecDepth 20000 in
theorem ggX8_meet_X8_power : GoodIn wsX8_meet wsX8_power := goodIn_r _ [7, 8, 9, 3, 10] (by decide +kernel) (by decide +kernel)
set_option maxRecDepth 20000 in
theorem gX8_meet_X8_power : GoodIn wsX8_meet (va_wsS RX8 207 yX8_power wsX8_power) := goodIn_app (goodIn_of _ (by decide +kernel)) ggX8_meet_X8_power
set_option maxRecDepth 20000 in
theorem ggX8_meet_X8_followWalk : GoodIn wsX8_meet wsX8_followWalk := goodIn_r _ [14, 15, 16, 17, 18, 19, 20, 21, 22, 23, 24, 25, 26, 27, 28, 29, 30, 31, 32, 33, 34, 35, 36, 37, 38, 39, 40, 41, 42, 43, 44, 45, 46, 47, 48, 49, 50, 51, 52, 53, 54, 55, 56, 57, 58, 59, 60, 61, 62, 63, 64, 65, 66, 67, 68, 69, 70, 71, 72, 73, 74, 75, 76, 77, 78, 79, 80, 81, 82, 83, 84, 85, 86, 87, 88, 89, 90, 91, 92, 93, 94, 95, 96, 97, 98, 99, 100, 101, 102, 103, 104, 105, 106, 107, 108, 109, 110, 111, 112, 113, 114, 115, 116, 117, 118, 119, 120, 121, 122, 123, 124, 125, 126, 127, 128, 129, 130, 131, 132, 133, 134, 135, 136, 137, 138, 139, 140, 141, 142, 143, 144, 145, 146, 147, 148, 149, 150, 151, 152, 153, 154, 155, 156, 157, 3, 158, 159, 160, 161, 162, 163, 164, 165, 166, 167, 168, 169, 170, 171, 172, 173, 174, 175, 176, 177, 178, 179, 180, 181, 182, 183, 184, 185, 186, 187, 188, 189, 190, 191, 192, 193, 194, 195, 196, 197, 198, 199, 200, 201, 202, 203, 204, 205, 206, 207, 208, 209, 210, 211, 212, 213, 214, 215, 216, 217, 218, 219, 220, 221, 222, 223, 224, 225, 226, 227, 228, 229, 230, 231, 232, 233, 234, 235, 236, 237, 238, 239, 240, 241, 242, 243, 244, 245, 246, 247, 266, 267, 268, 269, 270, 271, 272, 273, 274, 275, 276, 277, 278, 279, 280, 281, 282, 283, 284, 285, 286, 287, 288, 289, 290, 291, 292, 293, 294, 295, 296, 297, 298, 299, 300, 301, 302, 303, 304, 305] (by decide +kernel) (by decide +kernel)
set_option maxRecDepth 20000 in
theorem gX8_meet_X8_followWalk : GoodIn wsX8_meet (wsV RX8 142 RX8 yX8_followWalk wsX8_followWalk) := goodIn_app (goodIn_of _ (by decide +kernel)) ggX8_meet_X8_followWalk
set_option maxRecDepth 20000 in
theorem ggX8_meet_X8_firstMeeting : GoodIn wsX8_meet wsX8_firstMeeting := goodIn_r _ [251, 17, 252, 253, 15, 254, 255, 68, 65, 69, 256, 157, 3, 158, 257, 208, 209, 23, 210, 30, 31, 32, 33, 29, 34, 35, 36, 37, 38, 39, 40, 41, 42, 43, 44, 45, 46, 47, 48, 49, 50, 51, 52, 53, 54, 55, 56, 57, 58, 59, 60, 61, 62, 63, 64, 66, 67, 70, 71, 72, 73, 74, 75, 76, 77, 78, 79, 80, 81, 82, 83, 84, 85, 86, 87, 88, 89, 90, 91, 92, 93, 94, 95, 96, 97, 98, 99, 100, 101, 102, 103, 104, 105, 106, 107, 108, 109, 110, 111, 112, 113, 114, 115, 116, 117, 118, 119, 120, 121, 122, 123, 258, 259, 260, 170, 261, 262, 216, 217, 218, 184, 185, 186, 187, 188, 189, 190, 191, 219, 220, 221, 222, 183, 263, 264, 265, 266, 267, 268, 269, 270, 271, 272, 273, 289, 290, 291, 292, 293, 294, 295, 296, 297, 298, 299, 300, 301, 281, 282] (by decide +kernel) (by decide +kernel)
set_option maxRecDepth 20000 in
theorem gX8_meet_X8_firstMeeting : GoodIn wsX8_meet (wsV RX8 210 RX8 yX8_firstMeeting wsX8_firstMeeting) := goodIn_app (goodIn_of _ (by decide +kernel)) ggX8_meet_X8_firstMeeting
theorem dX8_meet_0 : decode cX8_meet 0 = .ok (.iload_n 2, 1) := by decide +kernel
theorem dX8_meet_1 : decode cX8_meet 1 = .ok (.iconst 0, 1) := by decide +kernel
theorem dX8_meet_2 : decode cX8_meet 2 = .ok (.bipush 8, 2) := by decide +kernel
theorem dX8_meet_4 : decode cX8_meet 4 = .ok (.invokestatic 61, 3) := by decide +kernel
theorem dX8_meet_7 : decode cX8_meet 7 = .ok (.ifCond .eq 18, 3) := by decide +kernel
theorem dX8_meet_10 : decode cX8_meet 10 = .ok (.iload_n 1, 1) := by decide +kernel
theorem dX8_meet_11 : decode cX8_meet 11 = .ok (.iconst 0, 1) := by decide +kernel
theorem dX8_meet_12 : decode cX8_meet 12 = .ok (.iconst 5, 1) := by decide +kernel
theorem dX8_meet_13 : decode cX8_meet 13 = .ok (.iload_n 2, 1) := by decide +kernel
theorem dX8_meet_14 : decode cX8_meet 14 = .ok (.invokestatic 207, 3) := by decide +kernel
theorem dX8_meet_17 : decode cX8_meet 17 = .ok (.iconst 1, 1) := by decide +kernel
theorem dX8_meet_18 : decode cX8_meet 18 = .ok (.isub, 1) := by decide +kernel
theorem dX8_meet_19 : decode cX8_meet 19 = .ok (.invokestatic 61, 3) := by decide +kernel
theorem dX8_meet_22 : decode cX8_meet 22 = .ok (.ifCond .ne 6, 3) := by decide +kernel
theorem dX8_meet_25 : decode cX8_meet 25 = .ok (.bipush (-2), 2) := by decide +kernel
theorem dX8_meet_27 : decode cX8_meet 27 = .ok (.ireturn, 1) := by decide +kernel
theorem dX8_meet_28 : decode cX8_meet 28 = .ok (.aload_n 0, 1) := by decide +kernel
theorem dX8_meet_29 : decode cX8_meet 29 = .ok (.invokevirtual 142, 3) := by decide +kernel
theorem dX8_meet_32 : decode cX8_meet 32 = .ok (.istore_n 3, 1) := by decide +kernel
theorem dX8_meet_33 : decode cX8_meet 33 = .ok (.iload_n 3, 1) := by decide +kernel
theorem dX8_meet_34 : decode cX8_meet 34 = .ok (.ifCond .ne 12, 3) := by decide +kernel
theorem dX8_meet_37 : decode cX8_meet 37 = .ok (.aload_n 0, 1) := by decide +kernel
theorem dX8_meet_38 : decode cX8_meet 38 = .ok (.iload_n 1, 1) := by decide +kernel
theorem dX8_meet_39 : decode cX8_meet 39 = .ok (.iload_n 2, 1) := by decide +kernel
theorem dX8_meet_40 : decode cX8_meet 40 = .ok (.invokevirtual 210, 3) := by decide +kernel
theorem dX8_meet_43 : decode cX8_meet 43 = .ok (.goto 4, 3) := by decide +kernel
theorem dX8_meet_46 : decode cX8_meet 46 = .ok (.iload_n 3, 1) := by decide +kernel
theorem dX8_meet_47 : decode cX8_meet 47 = .ok (.ireturn, 1) := by decide +kernel
set_option maxRecDepth 20000 in
theorem ggX8_firstMeeting_X8_bit : GoodIn wsX8_firstMeeting wsX8_bit := goodIn_r _ [13] (by decide +kernel) (by decide +kernel)
set_option maxRecDepth 20000 in
theorem gX8_firstMeeting_X8_bit : GoodIn wsX8_firstMeeting (va_wsS RX8 167 yX8_bit wsX8_bit) := goodIn_app (goodIn_of _ (by decide +kernel)) ggX8_firstMeeting_X8_bit
set_option maxRecDepth 20000 in
theorem ggX8_firstMeeting_X2_stepAt : GoodIn wsX8_firstMeeting wsX2_stepAt := goodIn_r _ [18, 19, 20, 21, 17, 22, 23, 24, 25, 26, 27, 28, 29, 30, 31, 32, 33, 34, 35, 36, 37, 38, 39, 40, 41, 42, 43, 44, 45, 46, 47, 48, 49, 50, 51, 52, 53, 54, 8, 55, 56, 7, 9, 57, 58, 59, 60, 61, 62, 63, 64, 65, 66, 67, 68, 69, 70, 71, 72, 73, 74, 75, 76, 77, 78, 79, 80, 81, 82, 83, 84, 85, 86, 87, 88, 89, 90, 91, 92, 93, 94, 95, 96, 97, 98, 99, 100, 101, 102, 103, 104, 105, 106, 107, 108, 109, 110, 157, 158] (by decide +kernel) (by decide +kernel)
set_option maxRecDepth 20000 in
theorem gX8_firstMeeting_X2_stepAt : GoodIn wsX8_firstMeeting (wsV RX8 218 RX2 yX2_stepAt wsX2_stepAt) := goodIn_app (goodIn_of _ (by decide +kernel)) ggX8_firstMeeting_X2_stepAt
set_option maxRecDepth 20000 in
theorem ggX8_firstMeeting_X0_stepOrStay : GoodIn wsX8_firstMeeting wsX0_stepOrStay := goodIn_r _ [115, 116, 117, 118, 114, 119, 120, 121, 122, 123, 124, 125, 126, 127, 128, 129, 130, 131, 132, 144, 145, 146, 147, 148, 149, 150, 151, 152, 153, 154, 155, 156] (by decide +kernel) (by decide +kernel)
set_option maxRecDepth 20000 in
theorem gX8_firstMeeting_X0_stepOrStay : GoodIn wsX8_firstMeeting (wsV RX8 221 RX0 yX0_stepOrStay wsX0_stepOrStay) := goodIn_app (goodIn_of _ (by decide +kernel)) ggX8_firstMeeting_X0_stepOrStay
set_option maxRecDepth 20000 in
theorem ggX8_firstMeeting_X8_stepTold : GoodIn wsX8_firstMeeting wsX8_stepTold := goodIn_r _ [135] (by decide +kernel) (by decide +kernel)
set_option maxRecDepth 20000 in
theorem gX8_firstMeeting_X8_stepTold : GoodIn wsX8_firstMeeting (va_wsS RX8 224 yX8_stepTold wsX8_stepTold) := goodIn_app (goodIn_of _ (by decide +kernel)) ggX8_firstMeeting_X8_stepTold
theorem dX8_firstMeeting_0 : decode cX8_firstMeeting 0 = .ok (.aload_n 0, 1) := by decide +kernel
theorem dX8_firstMeeting_1 : decode cX8_firstMeeting 1 = .ok (.getfield 19, 3) := by decide +kernel
theorem dX8_firstMeeting_4 : decode cX8_firstMeeting 4 = .ok (.getfield 164, 3) := by decide +kernel
theorem dX8_firstMeeting_7 : decode cX8_firstMeeting 7 = .ok (.invokestatic 167, 3) := by decide +kernel
theorem dX8_firstMeeting_10 : decode cX8_firstMeeting 10 = .ok (.istore_n 3, 1) := by decide +kernel
theorem dX8_firstMeeting_11 : decode cX8_firstMeeting 11 = .ok (.aload_n 0, 1) := by decide +kernel
theorem dX8_firstMeeting_12 : decode cX8_firstMeeting 12 = .ok (.getfield 19, 3) := by decide +kernel
theorem dX8_firstMeeting_15 : decode cX8_firstMeeting 15 = .ok (.getfield 170, 3) := by decide +kernel
theorem dX8_firstMeeting_18 : decode cX8_firstMeeting 18 = .ok (.invokestatic 167, 3) := by decide +kernel
theorem dX8_firstMeeting_21 : decode cX8_firstMeeting 21 = .ok (.istore 4, 2) := by decide +kernel
theorem dX8_firstMeeting_23 : decode cX8_firstMeeting 23 = .ok (.iload_n 2, 1) := by decide +kernel
theorem dX8_firstMeeting_24 : decode cX8_firstMeeting 24 = .ok (.aload_n 0, 1) := by decide +kernel
theorem dX8_firstMeeting_25 : decode cX8_firstMeeting 25 = .ok (.getfield 10, 3) := by decide +kernel
theorem dX8_firstMeeting_28 : decode cX8_firstMeeting 28 = .ok (.getfield 77, 3) := by decide +kernel
theorem dX8_firstMeeting_31 : decode cX8_firstMeeting 31 = .ok (.invokestatic 213, 3) := by decide +kernel
theorem dX8_firstMeeting_34 : decode cX8_firstMeeting 34 = .ok (.istore 5, 2) := by decide +kernel
theorem dX8_firstMeeting_36 : decode cX8_firstMeeting 36 = .ok (.iconst 0, 1) := by decide +kernel
theorem dX8_firstMeeting_37 : decode cX8_firstMeeting 37 = .ok (.istore 6, 2) := by decide +kernel
theorem dX8_firstMeeting_39 : decode cX8_firstMeeting 39 = .ok (.iload 6, 2) := by decide +kernel
theorem dX8_firstMeeting_41 : decode cX8_firstMeeting 41 = .ok (.iload 5, 2) := by decide +kernel
theorem dX8_firstMeeting_43 : decode cX8_firstMeeting 43 = .ok (.if_icmp .ge 76, 3) := by decide +kernel
theorem dX8_firstMeeting_46 : decode cX8_firstMeeting 46 = .ok (.aload_n 0, 1) := by decide +kernel
theorem dX8_firstMeeting_47 : decode cX8_firstMeeting 47 = .ok (.getfield 19, 3) := by decide +kernel
theorem dX8_firstMeeting_50 : decode cX8_firstMeeting 50 = .ok (.iload_n 3, 1) := by decide +kernel
theorem dX8_firstMeeting_51 : decode cX8_firstMeeting 51 = .ok (.aload_n 0, 1) := by decide +kernel
theorem dX8_firstMeeting_52 : decode cX8_firstMeeting 52 = .ok (.getfield 10, 3) := by decide +kernel
theorem dX8_firstMeeting_55 : decode cX8_firstMeeting 55 = .ok (.iload 6, 2) := by decide +kernel
theorem dX8_firstMeeting_57 : decode cX8_firstMeeting 57 = .ok (.invokevirtual 218, 3) := by decide +kernel
theorem dX8_firstMeeting_60 : decode cX8_firstMeeting 60 = .ok (.invokevirtual 221, 3) := by decide +kernel
theorem dX8_firstMeeting_63 : decode cX8_firstMeeting 63 = .ok (.istore 7, 2) := by decide +kernel
theorem dX8_firstMeeting_65 : decode cX8_firstMeeting 65 = .ok (.aload_n 0, 1) := by decide +kernel
theorem dX8_firstMeeting_66 : decode cX8_firstMeeting 66 = .ok (.getfield 19, 3) := by decide +kernel
theorem dX8_firstMeeting_69 : decode cX8_firstMeeting 69 = .ok (.iload 4, 2) := by decide +kernel
theorem dX8_firstMeeting_71 : decode cX8_firstMeeting 71 = .ok (.iload_n 1, 1) := by decide +kernel
theorem dX8_firstMeeting_72 : decode cX8_firstMeeting 72 = .ok (.iload_n 2, 1) := by decide +kernel
theorem dX8_firstMeeting_73 : decode cX8_firstMeeting 73 = .ok (.iload 6, 2) := by decide +kernel
theorem dX8_firstMeeting_75 : decode cX8_firstMeeting 75 = .ok (.invokestatic 224, 3) := by decide +kernel
theorem dX8_firstMeeting_78 : decode cX8_firstMeeting 78 = .ok (.invokevirtual 221, 3) := by decide +kernel
theorem dX8_firstMeeting_81 : decode cX8_firstMeeting 81 = .ok (.istore 8, 2) := by decide +kernel
theorem dX8_firstMeeting_83 : decode cX8_firstMeeting 83 = .ok (.iload 7, 2) := by decide +kernel
theorem dX8_firstMeeting_85 : decode cX8_firstMeeting 85 = .ok (.iload 8, 2) := by decide +kernel
theorem dX8_firstMeeting_87 : decode cX8_firstMeeting 87 = .ok (.if_icmp .eq 16, 3) := by decide +kernel
theorem dX8_firstMeeting_90 : decode cX8_firstMeeting 90 = .ok (.iload 7, 2) := by decide +kernel
theorem dX8_firstMeeting_92 : decode cX8_firstMeeting 92 = .ok (.iload 4, 2) := by decide +kernel
theorem dX8_firstMeeting_94 : decode cX8_firstMeeting 94 = .ok (.if_icmp .ne 12, 3) := by decide +kernel
theorem dX8_firstMeeting_97 : decode cX8_firstMeeting 97 = .ok (.iload 8, 2) := by decide +kernel
theorem dX8_firstMeeting_99 : decode cX8_firstMeeting 99 = .ok (.iload_n 3, 1) := by decide +kernel
theorem dX8_firstMeeting_100 : decode cX8_firstMeeting 100 = .ok (.if_icmp .ne 6, 3) := by decide +kernel
theorem dX8_firstMeeting_103 : decode cX8_firstMeeting 103 = .ok (.iload 6, 2) := by decide +kernel
theorem dX8_firstMeeting_105 : decode cX8_firstMeeting 105 = .ok (.ireturn, 1) := by decide +kernel
theorem dX8_firstMeeting_106 : decode cX8_firstMeeting 106 = .ok (.iload 7, 2) := by decide +kernel
theorem dX8_firstMeeting_108 : decode cX8_firstMeeting 108 = .ok (.istore_n 3, 1) := by decide +kernel
theorem dX8_firstMeeting_109 : decode cX8_firstMeeting 109 = .ok (.iload 8, 2) := by decide +kernel
theorem dX8_firstMeeting_111 : decode cX8_firstMeeting 111 = .ok (.istore 4, 2) := by decide +kernel
theorem dX8_firstMeeting_113 : decode cX8_firstMeeting 113 = .ok (.iinc 6 1, 3) := by decide +kernel
theorem dX8_firstMeeting_116 : decode cX8_firstMeeting 116 = .ok (.goto (-77), 3) := by decide +kernel
theorem dX8_firstMeeting_119 : decode cX8_firstMeeting 119 = .ok (.bipush (-6), 2) := by decide +kernel
theorem dX8_firstMeeting_121 : decode cX8_firstMeeting 121 = .ok (.ireturn, 1) := by decide +kernel
theorem dX8_stepTold_0 : decode cX8_stepTold 0 = .ok (.iload_n 0, 1) := by decide +kernel
theorem dX8_stepTold_1 : decode cX8_stepTold 1 = .ok (.istore_n 3, 1) := by decide +kernel
theorem dX8_stepTold_2 : decode cX8_stepTold 2 = .ok (.iload_n 1, 1) := by decide +kernel
theorem dX8_stepTold_3 : decode cX8_stepTold 3 = .ok (.iconst 1, 1) := by decide +kernel
theorem dX8_stepTold_4 : decode cX8_stepTold 4 = .ok (.isub, 1) := by decide +kernel
theorem dX8_stepTold_5 : decode cX8_stepTold 5 = .ok (.istore 4, 2) := by decide +kernel
theorem dX8_stepTold_7 : decode cX8_stepTold 7 = .ok (.iload 4, 2) := by decide +kernel
theorem dX8_stepTold_9 : decode cX8_stepTold 9 = .ok (.iload_n 2, 1) := by decide +kernel
theorem dX8_stepTold_10 : decode cX8_stepTold 10 = .ok (.if_icmp .le 13, 3) := by decide +kernel
theorem dX8_stepTold_13 : decode cX8_stepTold 13 = .ok (.iload_n 3, 1) := by decide +kernel
theorem dX8_stepTold_14 : decode cX8_stepTold 14 = .ok (.iconst 5, 1) := by decide +kernel
theorem dX8_stepTold_15 : decode cX8_stepTold 15 = .ok (.idiv, 1) := by decide +kernel
theorem dX8_stepTold_16 : decode cX8_stepTold 16 = .ok (.istore_n 3, 1) := by decide +kernel
theorem dX8_stepTold_17 : decode cX8_stepTold 17 = .ok (.iinc 4 (-1), 3) := by decide +kernel
theorem dX8_stepTold_20 : decode cX8_stepTold 20 = .ok (.goto (-13), 3) := by decide +kernel
theorem dX8_stepTold_23 : decode cX8_stepTold 23 = .ok (.iload_n 3, 1) := by decide +kernel
theorem dX8_stepTold_24 : decode cX8_stepTold 24 = .ok (.iconst 5, 1) := by decide +kernel
theorem dX8_stepTold_25 : decode cX8_stepTold 25 = .ok (.irem, 1) := by decide +kernel
theorem dX8_stepTold_26 : decode cX8_stepTold 26 = .ok (.ireturn, 1) := by decide +kernel
set_option maxRecDepth 20000 in
theorem ggX8_where_X8_within : GoodIn wsX8_where wsX8_within := goodIn_r _ [7] (by decide +kernel) (by decide +kernel)
set_option maxRecDepth 20000 in
theorem gX8_where_X8_within : GoodIn wsX8_where (va_wsS RX8 61 yX8_within wsX8_within) := goodIn_app (goodIn_of _ (by decide +kernel)) ggX8_where_X8_within
set_option maxRecDepth 20000 in
theorem ggX8_where_X8_power : GoodIn wsX8_where wsX8_power := goodIn_r _ [10, 11, 12, 6, 13] (by decide +kernel) (by decide +kernel)
set_option maxRecDepth 20000 in
theorem gX8_where_X8_power : GoodIn wsX8_where (va_wsS RX8 207 yX8_power wsX8_power) := goodIn_app (goodIn_of _ (by decide +kernel)) ggX8_where_X8_power
set_option maxRecDepth 20000 in
theorem ggX8_where_X0_bareCells : GoodIn wsX8_where wsX0_bareCells := goodIn_r _ [18, 19, 20, 21, 22, 23, 17, 24, 25, 26, 27, 28, 29, 30, 31, 32, 33, 6, 34, 35, 36, 37, 38, 39, 40, 41, 42, 43, 44, 45, 46, 47, 48, 49, 50, 51, 52, 53, 54, 55, 56, 57, 58, 59, 60, 61, 62, 63, 64, 65, 66, 67, 68, 69, 70, 71, 72, 73, 132, 133, 134, 135, 136, 137, 138, 139, 140, 141, 142, 143, 144, 145, 146, 147, 148] (by decide +kernel) (by decide +kernel)
set_option maxRecDepth 20000 in
theorem gX8_where_X0_bareCells : GoodIn wsX8_where (wsV RX8 157 RX0 yX0_bareCells wsX0_bareCells) := goodIn_app (goodIn_of _ (by decide +kernel)) ggX8_where_X0_bareCells
set_option maxRecDepth 20000 in
theorem ggX8_where_X7_begin : GoodIn wsX8_where wsX7_begin := goodIn_r _ [78, 79, 80, 81, 82, 83, 84, 6, 85, 149, 150] (by decide +kernel) (by decide +kernel)
set_option maxRecDepth 20000 in
theorem gX8_where_X7_begin : GoodIn wsX8_where (wsV RX8 228 RX7 yX7_begin wsX7_begin) := goodIn_app (goodIn_of _ (by decide +kernel)) ggX8_where_X7_begin
set_option maxRecDepth 20000 in
theorem ggX8_where_X8_has : GoodIn wsX8_where wsX8_has := goodIn_r _ [88] (by decide +kernel) (by decide +kernel)
set_option maxRecDepth 20000 in
theorem gX8_where_X8_has : GoodIn wsX8_where (va_wsS RX8 116 yX8_has wsX8_has) := goodIn_app (goodIn_of _ (by decide +kernel)) ggX8_where_X8_has
set_option maxRecDepth 20000 in
theorem ggX8_where_X0_open : GoodIn wsX8_where wsX0_open := goodIn_r _ [24, 25, 26, 132, 133, 134, 135, 136, 137, 138, 139, 140, 141, 142, 143, 144] (by decide +kernel) (by decide +kernel)
set_option maxRecDepth 20000 in
theorem gX8_where_X0_open : GoodIn wsX8_where (wsV RX8 98 RX0 yX0_open wsX0_open) := goodIn_app (goodIn_of _ (by decide +kernel)) ggX8_where_X0_open
set_option maxRecDepth 20000 in
theorem ggX8_where_X7_passMinute : GoodIn wsX8_where wsX7_passMinute := goodIn_r _ [93, 79, 94, 95, 96, 97, 98, 87, 6, 88, 99, 100, 101, 77, 102, 57, 58, 103, 104, 105, 17, 106, 59, 60, 61, 62, 63, 64, 25, 65, 21, 22, 23, 24, 26, 107, 108, 109, 110, 111, 112, 113, 114, 115, 33, 34, 149, 150, 132, 133, 134, 135, 136, 137, 138, 139, 140, 141, 142, 143, 144] (by decide +kernel) (by decide +kernel)
set_option maxRecDepth 20000 in
theorem gX8_where_X7_passMinute : GoodIn wsX8_where (wsV RX8 232 RX7 yX7_passMinute wsX7_passMinute) := goodIn_app (goodIn_of _ (by decide +kernel)) ggX8_where_X7_passMinute
set_option maxRecDepth 20000 in
theorem ggX8_where_X7_possibleCells : GoodIn wsX8_where wsX7_possibleCells := goodIn_r _ [119, 79, 57, 6, 58, 149, 150] (by decide +kernel) (by decide +kernel)
set_option maxRecDepth 20000 in
theorem gX8_where_X7_possibleCells : GoodIn wsX8_where (wsV RX8 236 RX7 yX7_possibleCells wsX7_possibleCells) := goodIn_app (goodIn_of _ (by decide +kernel)) ggX8_where_X7_possibleCells
set_option maxRecDepth 20000 in
theorem ggX8_where_X7_walks : GoodIn wsX8_where wsX7_walks := goodIn_r _ [123, 79, 149, 150] (by decide +kernel) (by decide +kernel)
set_option maxRecDepth 20000 in
theorem gX8_where_X7_walks : GoodIn wsX8_where (wsV RX8 239 RX7 yX7_walks wsX7_walks) := goodIn_app (goodIn_of _ (by decide +kernel)) ggX8_where_X7_walks
theorem dX8_where_0 : decode cX8_where 0 = .ok (.iload_n 2, 1) := by decide +kernel
theorem dX8_where_1 : decode cX8_where 1 = .ok (.iconst 0, 1) := by decide +kernel
theorem dX8_where_2 : decode cX8_where 2 = .ok (.bipush 8, 2) := by decide +kernel
theorem dX8_where_4 : decode cX8_where 4 = .ok (.invokestatic 61, 3) := by decide +kernel
theorem dX8_where_7 : decode cX8_where 7 = .ok (.ifCond .eq 27, 3) := by decide +kernel
theorem dX8_where_10 : decode cX8_where 10 = .ok (.iload_n 1, 1) := by decide +kernel
theorem dX8_where_11 : decode cX8_where 11 = .ok (.iconst 0, 1) := by decide +kernel
theorem dX8_where_12 : decode cX8_where 12 = .ok (.iconst 2, 1) := by decide +kernel
theorem dX8_where_13 : decode cX8_where 13 = .ok (.iload_n 2, 1) := by decide +kernel
theorem dX8_where_14 : decode cX8_where 14 = .ok (.invokestatic 207, 3) := by decide +kernel
theorem dX8_where_17 : decode cX8_where 17 = .ok (.iconst 1, 1) := by decide +kernel
theorem dX8_where_18 : decode cX8_where 18 = .ok (.isub, 1) := by decide +kernel
theorem dX8_where_19 : decode cX8_where 19 = .ok (.invokestatic 61, 3) := by decide +kernel
theorem dX8_where_22 : decode cX8_where 22 = .ok (.ifCond .eq 12, 3) := by decide +kernel
theorem dX8_where_25 : decode cX8_where 25 = .ok (.iload_n 3, 1) := by decide +kernel
theorem dX8_where_26 : decode cX8_where 26 = .ok (.iconst 0, 1) := by decide +kernel
theorem dX8_where_27 : decode cX8_where 27 = .ok (.iconst 1, 1) := by decide +kernel
theorem dX8_where_28 : decode cX8_where 28 = .ok (.invokestatic 61, 3) := by decide +kernel
theorem dX8_where_31 : decode cX8_where 31 = .ok (.ifCond .ne 6, 3) := by decide +kernel
theorem dX8_where_34 : decode cX8_where 34 = .ok (.bipush (-2), 2) := by decide +kernel
theorem dX8_where_36 : decode cX8_where 36 = .ok (.ireturn, 1) := by decide +kernel
theorem dX8_where_37 : decode cX8_where 37 = .ok (.aload_n 0, 1) := by decide +kernel
theorem dX8_where_38 : decode cX8_where 38 = .ok (.getfield 19, 3) := by decide +kernel
theorem dX8_where_41 : decode cX8_where 41 = .ok (.invokevirtual 157, 3) := by decide +kernel
theorem dX8_where_44 : decode cX8_where 44 = .ok (.istore 4, 2) := by decide +kernel
theorem dX8_where_46 : decode cX8_where 46 = .ok (.aload_n 0, 1) := by decide +kernel
theorem dX8_where_47 : decode cX8_where 47 = .ok (.getfield 57, 3) := by decide +kernel
theorem dX8_where_50 : decode cX8_where 50 = .ok (.aload_n 0, 1) := by decide +kernel
theorem dX8_where_51 : decode cX8_where 51 = .ok (.getfield 19, 3) := by decide +kernel
theorem dX8_where_54 : decode cX8_where 54 = .ok (.getfield 164, 3) := by decide +kernel
theorem dX8_where_57 : decode cX8_where 57 = .ok (.invokevirtual 228, 3) := by decide +kernel
theorem dX8_where_60 : decode cX8_where 60 = .ok (.iconst 0, 1) := by decide +kernel
theorem dX8_where_61 : decode cX8_where 61 = .ok (.istore 5, 2) := by decide +kernel
theorem dX8_where_63 : decode cX8_where 63 = .ok (.iload 5, 2) := by decide +kernel
theorem dX8_where_65 : decode cX8_where 65 = .ok (.iload_n 2, 1) := by decide +kernel
theorem dX8_where_66 : decode cX8_where 66 = .ok (.if_icmp .ge 46, 3) := by decide +kernel
theorem dX8_where_69 : decode cX8_where 69 = .ok (.aload_n 0, 1) := by decide +kernel
theorem dX8_where_70 : decode cX8_where 70 = .ok (.getfield 57, 3) := by decide +kernel
theorem dX8_where_73 : decode cX8_where 73 = .ok (.aload_n 0, 1) := by decide +kernel
theorem dX8_where_74 : decode cX8_where 74 = .ok (.getfield 19, 3) := by decide +kernel
theorem dX8_where_77 : decode cX8_where 77 = .ok (.iload_n 1, 1) := by decide +kernel
theorem dX8_where_78 : decode cX8_where 78 = .ok (.iload 5, 2) := by decide +kernel
theorem dX8_where_80 : decode cX8_where 80 = .ok (.invokestatic 116, 3) := by decide +kernel
theorem dX8_where_83 : decode cX8_where 83 = .ok (.ifCond .eq 18, 3) := by decide +kernel
theorem dX8_where_86 : decode cX8_where 86 = .ok (.aload_n 0, 1) := by decide +kernel
theorem dX8_where_87 : decode cX8_where 87 = .ok (.getfield 19, 3) := by decide +kernel
theorem dX8_where_90 : decode cX8_where 90 = .ok (.invokevirtual 98, 3) := by decide +kernel
theorem dX8_where_93 : decode cX8_where 93 = .ok (.iload 4, 2) := by decide +kernel
theorem dX8_where_95 : decode cX8_where 95 = .ok (.iconst (-1), 1) := by decide +kernel
theorem dX8_where_96 : decode cX8_where 96 = .ok (.ixor, 1) := by decide +kernel
theorem dX8_where_97 : decode cX8_where 97 = .ok (.iand, 1) := by decide +kernel
theorem dX8_where_98 : decode cX8_where 98 = .ok (.goto 5, 3) := by decide +kernel
theorem dX8_where_101 : decode cX8_where 101 = .ok (.iload 4, 2) := by decide +kernel
theorem dX8_where_103 : decode cX8_where 103 = .ok (.invokevirtual 232, 3) := by decide +kernel
theorem dX8_where_106 : decode cX8_where 106 = .ok (.iinc 5 1, 3) := by decide +kernel
theorem dX8_where_109 : decode cX8_where 109 = .ok (.goto (-46), 3) := by decide +kernel
theorem dX8_where_112 : decode cX8_where 112 = .ok (.iload_n 3, 1) := by decide +kernel
theorem dX8_where_113 : decode cX8_where 113 = .ok (.ifCond .ne 13, 3) := by decide +kernel
theorem dX8_where_116 : decode cX8_where 116 = .ok (.aload_n 0, 1) := by decide +kernel
theorem dX8_where_117 : decode cX8_where 117 = .ok (.getfield 57, 3) := by decide +kernel
theorem dX8_where_120 : decode cX8_where 120 = .ok (.invokevirtual 236, 3) := by decide +kernel
theorem dX8_where_123 : decode cX8_where 123 = .ok (.goto 10, 3) := by decide +kernel
theorem dX8_where_126 : decode cX8_where 126 = .ok (.aload_n 0, 1) := by decide +kernel
theorem dX8_where_127 : decode cX8_where 127 = .ok (.getfield 57, 3) := by decide +kernel
theorem dX8_where_130 : decode cX8_where 130 = .ok (.invokevirtual 239, 3) := by decide +kernel
theorem dX8_where_133 : decode cX8_where 133 = .ok (.ireturn, 1) := by decide +kernel
set_option maxRecDepth 20000 in
theorem ggX8_wind_X8_within : GoodIn wsX8_wind wsX8_within := goodIn_r _ [10] (by decide +kernel) (by decide +kernel)
set_option maxRecDepth 20000 in
theorem gX8_wind_X8_within : GoodIn wsX8_wind (va_wsS RX8 61 yX8_within wsX8_within) := goodIn_app (goodIn_of _ (by decide +kernel)) ggX8_wind_X8_within
set_option maxRecDepth 20000 in
theorem ggX8_wind_X8_followWalk : GoodIn wsX8_wind wsX8_followWalk := goodIn_r _ [14, 15, 3, 16, 17, 18, 19, 20, 21, 22, 23, 24, 25, 26, 27, 28, 29, 30, 31, 32, 33, 34, 35, 36, 37, 38, 39, 40, 41, 42, 43, 44, 45, 46, 47, 48, 49, 50, 51, 52, 53, 54, 55, 56, 57, 58, 59, 60, 61, 62, 63, 64, 65, 66, 67, 68, 69, 70, 71, 72, 73, 74, 75, 76, 77, 78, 79, 80, 81, 82, 83, 84, 85, 86, 87, 88, 89, 90, 91, 92, 93, 94, 95, 96, 97, 98, 99, 100, 101, 102, 103, 104, 105, 106, 107, 108, 109, 110, 111, 112, 113, 114, 115, 116, 117, 118, 119, 120, 121, 122, 123, 124, 125, 126, 127, 128, 129, 130, 131, 132, 133, 134, 135, 136, 137, 138, 139, 140, 141, 142, 143, 144, 145, 146, 147, 148, 149, 150, 151, 152, 153, 154, 155, 156, 9, 157, 158, 159, 160, 161, 162, 163, 164, 165, 166, 167, 168, 169, 170, 171, 172, 173, 174, 175, 176, 177, 178, 179, 180, 181, 182, 183, 184, 185, 186, 187, 188, 189, 190, 191, 192, 193, 194, 195, 196, 197, 198, 199, 200, 201, 202, 203, 204, 205, 206, 207, 208, 209, 210, 211, 212, 213, 214, 215, 216, 217, 218, 219, 220, 221, 222, 223, 224, 225, 226, 227, 228, 229, 230, 231, 232, 233, 234, 235, 236, 237, 238, 239, 240, 241, 242, 243, 244, 245, 246, 253, 254, 255, 256, 257, 258, 259, 260, 261, 262, 263, 264, 265, 266, 267, 268, 269, 270, 271, 272, 273, 274, 275, 276, 277, 278, 279, 280, 281, 282, 283, 284, 285, 286, 287, 288, 289, 290, 291, 292] (by decide +kernel) (by decide +kernel)
set_option maxRecDepth 20000 in
theorem gX8_wind_X8_followWalk : GoodIn wsX8_wind (wsV RX8 142 RX8 yX8_followWalk wsX8_followWalk) := goodIn_app (goodIn_of _ (by decide +kernel)) ggX8_wind_X8_followWalk
set_option maxRecDepth 20000 in
theorem ggX8_wind_X8_powerOfTenths : GoodIn wsX8_wind wsX8_powerOfTenths := goodIn_r _ [249, 250, 251, 9, 252] (by decide +kernel) (by decide +kernel)
set_option maxRecDepth 20000 in
theorem gX8_wind_X8_powerOfTenths : GoodIn wsX8_wind (va_wsS RX8 254 yX8_powerOfTenths wsX8_powerOfTenths) := goodIn_app (goodIn_of _ (by decide +kernel)) ggX8_wind_X8_powerOfTenths
theorem dX8_wind_0 : decode cX8_wind 0 = .ok (.iload_n 1, 1) := by decide +kernel
theorem dX8_wind_1 : decode cX8_wind 1 = .ok (.iconst 0, 1) := by decide +kernel
theorem dX8_wind_2 : decode cX8_wind 2 = .ok (.bipush 10, 2) := by decide +kernel
theorem dX8_wind_4 : decode cX8_wind 4 = .ok (.invokestatic 61, 3) := by decide +kernel
theorem dX8_wind_7 : decode cX8_wind 7 = .ok (.ifCond .eq 12, 3) := by decide +kernel
theorem dX8_wind_10 : decode cX8_wind 10 = .ok (.iload_n 2, 1) := by decide +kernel
theorem dX8_wind_11 : decode cX8_wind 11 = .ok (.iconst 0, 1) := by decide +kernel
theorem dX8_wind_12 : decode cX8_wind 12 = .ok (.iconst 1, 1) := by decide +kernel
theorem dX8_wind_13 : decode cX8_wind 13 = .ok (.invokestatic 61, 3) := by decide +kernel
theorem dX8_wind_16 : decode cX8_wind 16 = .ok (.ifCond .ne 7, 3) := by decide +kernel
theorem dX8_wind_19 : decode cX8_wind 19 = .ok (.ldc2_w 242, 3) := by decide +kernel
theorem dX8_wind_22 : decode cX8_wind 22 = .ok (.lreturn, 1) := by decide +kernel
theorem dX8_wind_23 : decode cX8_wind 23 = .ok (.aload_n 0, 1) := by decide +kernel
theorem dX8_wind_24 : decode cX8_wind 24 = .ok (.invokevirtual 142, 3) := by decide +kernel
theorem dX8_wind_27 : decode cX8_wind 27 = .ok (.istore_n 3, 1) := by decide +kernel
theorem dX8_wind_28 : decode cX8_wind 28 = .ok (.iload_n 3, 1) := by decide +kernel
theorem dX8_wind_29 : decode cX8_wind 29 = .ok (.ifCond .eq 10, 3) := by decide +kernel
theorem dX8_wind_32 : decode cX8_wind 32 = .ok (.ldc2_w 244, 3) := by decide +kernel
theorem dX8_wind_35 : decode cX8_wind 35 = .ok (.iload_n 3, 1) := by decide +kernel
theorem dX8_wind_36 : decode cX8_wind 36 = .ok (.i2l, 1) := by decide +kernel
theorem dX8_wind_37 : decode cX8_wind 37 = .ok (.ladd, 1) := by decide +kernel
theorem dX8_wind_38 : decode cX8_wind 38 = .ok (.lreturn, 1) := by decide +kernel
theorem dX8_wind_39 : decode cX8_wind 39 = .ok (.aload_n 0, 1) := by decide +kernel
theorem dX8_wind_40 : decode cX8_wind 40 = .ok (.getfield 43, 3) := by decide +kernel
theorem dX8_wind_43 : decode cX8_wind 43 = .ok (.getfield 246, 3) := by decide +kernel
theorem dX8_wind_46 : decode cX8_wind 46 = .ok (.bipush 12, 2) := by decide +kernel
theorem dX8_wind_48 : decode cX8_wind 48 = .ok (.if_icmp .le 7, 3) := by decide +kernel
theorem dX8_wind_51 : decode cX8_wind 51 = .ok (.ldc2_w 249, 3) := by decide +kernel
theorem dX8_wind_54 : decode cX8_wind 54 = .ok (.lreturn, 1) := by decide +kernel
theorem dX8_wind_55 : decode cX8_wind 55 = .ok (.aload_n 0, 1) := by decide +kernel
theorem dX8_wind_56 : decode cX8_wind 56 = .ok (.getfield 43, 3) := by decide +kernel
theorem dX8_wind_59 : decode cX8_wind 59 = .ok (.getfield 251, 3) := by decide +kernel
theorem dX8_wind_62 : decode cX8_wind 62 = .ok (.aload_n 0, 1) := by decide +kernel
theorem dX8_wind_63 : decode cX8_wind 63 = .ok (.getfield 43, 3) := by decide +kernel
theorem dX8_wind_66 : decode cX8_wind 66 = .ok (.getfield 246, 3) := by decide +kernel
theorem dX8_wind_69 : decode cX8_wind 69 = .ok (.if_icmp .le 13, 3) := by decide +kernel
theorem dX8_wind_72 : decode cX8_wind 72 = .ok (.iload_n 2, 1) := by decide +kernel
theorem dX8_wind_73 : decode cX8_wind 73 = .ok (.ifCond .ne 7, 3) := by decide +kernel
theorem dX8_wind_76 : decode cX8_wind 76 = .ok (.lconst 0, 1) := by decide +kernel
theorem dX8_wind_77 : decode cX8_wind 77 = .ok (.goto 4, 3) := by decide +kernel
theorem dX8_wind_80 : decode cX8_wind 80 = .ok (.lconst 1, 1) := by decide +kernel
theorem dX8_wind_81 : decode cX8_wind 81 = .ok (.lreturn, 1) := by decide +kernel
theorem dX8_wind_82 : decode cX8_wind 82 = .ok (.iload_n 1, 1) := by decide +kernel
theorem dX8_wind_83 : decode cX8_wind 83 = .ok (.aload_n 0, 1) := by decide +kernel
theorem dX8_wind_84 : decode cX8_wind 84 = .ok (.getfield 43, 3) := by decide +kernel
theorem dX8_wind_87 : decode cX8_wind 87 = .ok (.getfield 246, 3) := by decide +kernel
theorem dX8_wind_90 : decode cX8_wind 90 = .ok (.iload_n 2, 1) := by decide +kernel
theorem dX8_wind_91 : decode cX8_wind 91 = .ok (.invokestatic 254, 3) := by decide +kernel
theorem dX8_wind_94 : decode cX8_wind 94 = .ok (.lreturn, 1) := by decide +kernel
set_option maxRecDepth 20000 in
theorem ggX8_powerOfTenths_X8_longPower : GoodIn wsX8_powerOfTenths wsX8_longPower := goodIn_r _ [4] (by decide +kernel) (by decide +kernel)
set_option maxRecDepth 20000 in
theorem gX8_powerOfTenths_X8_longPower : GoodIn wsX8_powerOfTenths (va_wsS RX8 258 yX8_longPower wsX8_longPower) := goodIn_app (goodIn_of _ (by decide +kernel)) ggX8_powerOfTenths_X8_longPower
theorem dX8_powerOfTenths_0 : decode cX8_powerOfTenths 0 = .ok (.bipush 10, 2) := by decide +kernel
theorem dX8_powerOfTenths_2 : decode cX8_powerOfTenths 2 = .ok (.istore_n 3, 1) := by decide +kernel
theorem dX8_powerOfTenths_3 : decode cX8_powerOfTenths 3 = .ok (.iload_n 3, 1) := by decide +kernel
theorem dX8_powerOfTenths_4 : decode cX8_powerOfTenths 4 = .ok (.iconst 1, 1) := by decide +kernel
theorem dX8_powerOfTenths_5 : decode cX8_powerOfTenths 5 = .ok (.if_icmp .le 41, 3) := by decide +kernel
theorem dX8_powerOfTenths_8 : decode cX8_powerOfTenths 8 = .ok (.iload_n 0, 1) := by decide +kernel
theorem dX8_powerOfTenths_9 : decode cX8_powerOfTenths 9 = .ok (.iload_n 3, 1) := by decide +kernel
theorem dX8_powerOfTenths_10 : decode cX8_powerOfTenths 10 = .ok (.irem, 1) := by decide +kernel
theorem dX8_powerOfTenths_11 : decode cX8_powerOfTenths 11 = .ok (.ifCond .ne 29, 3) := by decide +kernel
theorem dX8_powerOfTenths_14 : decode cX8_powerOfTenths 14 = .ok (.bipush 10, 2) := by decide +kernel
theorem dX8_powerOfTenths_16 : decode cX8_powerOfTenths 16 = .ok (.iload_n 3, 1) := by decide +kernel
theorem dX8_powerOfTenths_17 : decode cX8_powerOfTenths 17 = .ok (.irem, 1) := by decide +kernel
theorem dX8_powerOfTenths_18 : decode cX8_powerOfTenths 18 = .ok (.ifCond .ne 22, 3) := by decide +kernel
theorem dX8_powerOfTenths_21 : decode cX8_powerOfTenths 21 = .ok (.iload_n 2, 1) := by decide +kernel
theorem dX8_powerOfTenths_22 : decode cX8_powerOfTenths 22 = .ok (.ifCond .ne 9, 3) := by decide +kernel
theorem dX8_powerOfTenths_25 : decode cX8_powerOfTenths 25 = .ok (.iload_n 0, 1) := by decide +kernel
theorem dX8_powerOfTenths_26 : decode cX8_powerOfTenths 26 = .ok (.iload_n 3, 1) := by decide +kernel
theorem dX8_powerOfTenths_27 : decode cX8_powerOfTenths 27 = .ok (.idiv, 1) := by decide +kernel
theorem dX8_powerOfTenths_28 : decode cX8_powerOfTenths 28 = .ok (.goto 7, 3) := by decide +kernel
theorem dX8_powerOfTenths_31 : decode cX8_powerOfTenths 31 = .ok (.bipush 10, 2) := by decide +kernel
theorem dX8_powerOfTenths_33 : decode cX8_powerOfTenths 33 = .ok (.iload_n 3, 1) := by decide +kernel
theorem dX8_powerOfTenths_34 : decode cX8_powerOfTenths 34 = .ok (.idiv, 1) := by decide +kernel
theorem dX8_powerOfTenths_35 : decode cX8_powerOfTenths 35 = .ok (.iload_n 1, 1) := by decide +kernel
theorem dX8_powerOfTenths_36 : decode cX8_powerOfTenths 36 = .ok (.invokestatic 258, 3) := by decide +kernel
theorem dX8_powerOfTenths_39 : decode cX8_powerOfTenths 39 = .ok (.lreturn, 1) := by decide +kernel
theorem dX8_powerOfTenths_40 : decode cX8_powerOfTenths 40 = .ok (.iinc 3 (-1), 3) := by decide +kernel
theorem dX8_powerOfTenths_43 : decode cX8_powerOfTenths 43 = .ok (.goto (-40), 3) := by decide +kernel
theorem dX8_powerOfTenths_46 : decode cX8_powerOfTenths 46 = .ok (.iload_n 2, 1) := by decide +kernel
theorem dX8_powerOfTenths_47 : decode cX8_powerOfTenths 47 = .ok (.ifCond .ne 7, 3) := by decide +kernel
theorem dX8_powerOfTenths_50 : decode cX8_powerOfTenths 50 = .ok (.iload_n 0, 1) := by decide +kernel
theorem dX8_powerOfTenths_51 : decode cX8_powerOfTenths 51 = .ok (.goto 5, 3) := by decide +kernel
theorem dX8_powerOfTenths_54 : decode cX8_powerOfTenths 54 = .ok (.bipush 10, 2) := by decide +kernel
theorem dX8_powerOfTenths_56 : decode cX8_powerOfTenths 56 = .ok (.iload_n 1, 1) := by decide +kernel
theorem dX8_powerOfTenths_57 : decode cX8_powerOfTenths 57 = .ok (.invokestatic 258, 3) := by decide +kernel
theorem dX8_powerOfTenths_60 : decode cX8_powerOfTenths 60 = .ok (.lreturn, 1) := by decide +kernel
set_option maxRecDepth 20000 in
theorem ggX8_night_X8_within : GoodIn wsX8_night wsX8_within := goodIn_r _ [9] (by decide +kernel) (by decide +kernel)
set_option maxRecDepth 20000 in
theorem gX8_night_X8_within : GoodIn wsX8_night (va_wsS RX8 61 yX8_within wsX8_within) := goodIn_app (goodIn_of _ (by decide +kernel)) ggX8_night_X8_within
set_option maxRecDepth 20000 in
theorem ggX8_night_X6_begin : GoodIn wsX8_night wsX6_begin := goodIn_r _ [14, 15, 16, 17, 18, 19, 20, 21, 22, 23, 24, 25, 8, 26, 27, 28, 29, 30, 31, 32, 33, 34, 35, 36, 37, 38, 39, 40, 41, 42, 43, 44, 45, 46, 47, 48, 49, 50, 51, 52, 53, 54, 55, 56, 57, 58, 59, 60, 61, 62, 63, 64, 65, 66, 67, 68, 69, 70, 71, 72, 73, 74, 122, 123, 124, 125, 126, 127, 128, 129, 130, 131, 132, 133, 134, 116, 117, 118, 119, 120, 121, 135, 136, 137, 138] (by decide +kernel) (by decide +kernel)
set_option maxRecDepth 20000 in
theorem gX8_night_X6_begin : GoodIn wsX8_night (wsV RX8 262 RX6 yX6_begin wsX6_begin) := goodIn_app (goodIn_of _ (by decide +kernel)) ggX8_night_X6_begin
set_option maxRecDepth 20000 in
theorem ggX8_night_X6_take : GoodIn wsX8_night wsX6_take := goodIn_r _ [78, 16, 18, 17, 79, 80, 81, 38, 82, 52, 53, 54, 55, 56, 57, 58, 59, 83, 84, 85, 86, 51, 116, 117, 118, 119, 120, 121, 122, 123, 124, 125, 126, 127, 128, 129, 130, 131, 132, 133, 134] (by decide +kernel) (by decide +kernel)
set_option maxRecDepth 20000 in
theorem gX8_night_X6_take : GoodIn wsX8_night (wsV RX8 266 RX6 yX6_take wsX6_take) := goodIn_app (goodIn_of _ (by decide +kernel)) ggX8_night_X6_take
set_option maxRecDepth 20000 in
theorem ggX8_night_X6_firstShownTo : GoodIn wsX8_night wsX6_firstShownTo := goodIn_r _ [90, 19, 20, 91, 92, 93, 13, 94, 18, 16, 95, 21, 96, 22, 17, 97, 24, 33, 8, 34, 122, 123, 124, 125, 126, 127, 128, 129, 130, 131, 132, 133, 134, 135, 136, 137, 138, 116, 117, 118, 119, 120, 121] (by decide +kernel) (by decide +kernel)
set_option maxRecDepth 20000 in
theorem gX8_night_X6_firstShownTo : GoodIn wsX8_night (wsV RX8 270 RX6 yX6_firstShownTo wsX6_firstShownTo) := goodIn_app (goodIn_of _ (by decide +kernel)) ggX8_night_X6_firstShownTo
set_option maxRecDepth 20000 in
theorem ggX8_night_X8_cellOf : GoodIn wsX8_night wsX8_cellOf := goodIn_r _ [100, 101, 102, 103, 104, 105, 106, 107] (by decide +kernel) (by decide +kernel)
set_option maxRecDepth 20000 in
theorem gX8_night_X8_cellOf : GoodIn wsX8_night (va_wsS RX8 277 yX8_cellOf wsX8_cellOf) := goodIn_app (goodIn_of _ (by decide +kernel)) ggX8_night_X8_cellOf
set_option maxRecDepth 20000 in
theorem ggX8_night_J6_bitCount_0f7a4 : GoodIn wsX8_night wsJ6_bitCount_0f7a4 := goodIn_r _ [104, 105, 106, 107] (by decide +kernel) (by decide +kernel)
set_option maxRecDepth 20000 in
theorem gX8_night_J6_bitCount_0f7a4 : GoodIn wsX8_night (va_wsS RX8 101 yJ6_bitCount_0f7a4 wsJ6_bitCount_0f7a4) := goodIn_app (goodIn_of _ (by decide +kernel)) ggX8_night_J6_bitCount_0f7a4
theorem dX8_night_0 : decode cX8_night 0 = .ok (.iload_n 1, 1) := by decide +kernel
theorem dX8_night_1 : decode cX8_night 1 = .ok (.iconst 0, 1) := by decide +kernel
theorem dX8_night_2 : decode cX8_night 2 = .ok (.sipush 9999, 3) := by decide +kernel
theorem dX8_night_5 : decode cX8_night 5 = .ok (.invokestatic 61, 3) := by decide +kernel
theorem dX8_night_8 : decode cX8_night 8 = .ok (.ifCond .eq 22, 3) := by decide +kernel
theorem dX8_night_11 : decode cX8_night 11 = .ok (.iload_n 2, 1) := by decide +kernel
theorem dX8_night_12 : decode cX8_night 12 = .ok (.iconst 0, 1) := by decide +kernel
theorem dX8_night_13 : decode cX8_night 13 = .ok (.bipush 99, 2) := by decide +kernel
theorem dX8_night_15 : decode cX8_night 15 = .ok (.invokestatic 61, 3) := by decide +kernel
theorem dX8_night_18 : decode cX8_night 18 = .ok (.ifCond .eq 12, 3) := by decide +kernel
theorem dX8_night_21 : decode cX8_night 21 = .ok (.iload_n 3, 1) := by decide +kernel
theorem dX8_night_22 : decode cX8_night 22 = .ok (.iconst 0, 1) := by decide +kernel
theorem dX8_night_23 : decode cX8_night 23 = .ok (.iconst 2, 1) := by decide +kernel
theorem dX8_night_24 : decode cX8_night 24 = .ok (.invokestatic 61, 3) := by decide +kernel
theorem dX8_night_27 : decode cX8_night 27 = .ok (.ifCond .ne 6, 3) := by decide +kernel
theorem dX8_night_30 : decode cX8_night 30 = .ok (.bipush (-2), 2) := by decide +kernel
theorem dX8_night_32 : decode cX8_night 32 = .ok (.ireturn, 1) := by decide +kernel
theorem dX8_night_33 : decode cX8_night 33 = .ok (.iload_n 1, 1) := by decide +kernel
theorem dX8_night_34 : decode cX8_night 34 = .ok (.istore 4, 2) := by decide +kernel
theorem dX8_night_36 : decode cX8_night 36 = .ok (.iconst 0, 1) := by decide +kernel
theorem dX8_night_37 : decode cX8_night 37 = .ok (.istore 5, 2) := by decide +kernel
theorem dX8_night_39 : decode cX8_night 39 = .ok (.aload_n 0, 1) := by decide +kernel
theorem dX8_night_40 : decode cX8_night 40 = .ok (.getfield 36, 3) := by decide +kernel
theorem dX8_night_43 : decode cX8_night 43 = .ok (.aload_n 0, 1) := by decide +kernel
theorem dX8_night_44 : decode cX8_night 44 = .ok (.getfield 19, 3) := by decide +kernel
theorem dX8_night_47 : decode cX8_night 47 = .ok (.invokevirtual 262, 3) := by decide +kernel
theorem dX8_night_50 : decode cX8_night 50 = .ok (.iconst 0, 1) := by decide +kernel
theorem dX8_night_51 : decode cX8_night 51 = .ok (.istore 6, 2) := by decide +kernel
theorem dX8_night_53 : decode cX8_night 53 = .ok (.iload 6, 2) := by decide +kernel
theorem dX8_night_55 : decode cX8_night 55 = .ok (.iload_n 2, 1) := by decide +kernel
theorem dX8_night_56 : decode cX8_night 56 = .ok (.if_icmp .ge 59, 3) := by decide +kernel
theorem dX8_night_59 : decode cX8_night 59 = .ok (.bipush 75, 2) := by decide +kernel
theorem dX8_night_61 : decode cX8_night 61 = .ok (.iload 4, 2) := by decide +kernel
theorem dX8_night_63 : decode cX8_night 63 = .ok (.imul, 1) := by decide +kernel
theorem dX8_night_64 : decode cX8_night 64 = .ok (.bipush 74, 2) := by decide +kernel
theorem dX8_night_66 : decode cX8_night 66 = .ok (.iadd, 1) := by decide +kernel
theorem dX8_night_67 : decode cX8_night 67 = .ok (.ldc_w 265, 3) := by decide +kernel
theorem dX8_night_70 : decode cX8_night 70 = .ok (.irem, 1) := by decide +kernel
theorem dX8_night_71 : decode cX8_night 71 = .ok (.istore 4, 2) := by decide +kernel
theorem dX8_night_73 : decode cX8_night 73 = .ok (.aload_n 0, 1) := by decide +kernel
theorem dX8_night_74 : decode cX8_night 74 = .ok (.getfield 36, 3) := by decide +kernel
theorem dX8_night_77 : decode cX8_night 77 = .ok (.aload_n 0, 1) := by decide +kernel
theorem dX8_night_78 : decode cX8_night 78 = .ok (.getfield 19, 3) := by decide +kernel
theorem dX8_night_81 : decode cX8_night 81 = .ok (.iload 4, 2) := by decide +kernel
theorem dX8_night_83 : decode cX8_night 83 = .ok (.iconst 5, 1) := by decide +kernel
theorem dX8_night_84 : decode cX8_night 84 = .ok (.irem, 1) := by decide +kernel
theorem dX8_night_85 : decode cX8_night 85 = .ok (.invokevirtual 266, 3) := by decide +kernel
theorem dX8_night_88 : decode cX8_night 88 = .ok (.pop, 1) := by decide +kernel
theorem dX8_night_89 : decode cX8_night 89 = .ok (.aload_n 0, 1) := by decide +kernel
theorem dX8_night_90 : decode cX8_night 90 = .ok (.getfield 36, 3) := by decide +kernel
theorem dX8_night_93 : decode cX8_night 93 = .ok (.aload_n 0, 1) := by decide +kernel
theorem dX8_night_94 : decode cX8_night 94 = .ok (.getfield 19, 3) := by decide +kernel
theorem dX8_night_97 : decode cX8_night 97 = .ok (.iconst 0, 1) := by decide +kernel
theorem dX8_night_98 : decode cX8_night 98 = .ok (.invokevirtual 270, 3) := by decide +kernel
theorem dX8_night_101 : decode cX8_night 101 = .ok (.bipush (-6), 2) := by decide +kernel
theorem dX8_night_103 : decode cX8_night 103 = .ok (.if_icmp .eq 6, 3) := by decide +kernel
theorem dX8_night_106 : decode cX8_night 106 = .ok (.iinc 5 1, 3) := by decide +kernel
theorem dX8_night_109 : decode cX8_night 109 = .ok (.iinc 6 1, 3) := by decide +kernel
theorem dX8_night_112 : decode cX8_night 112 = .ok (.goto (-59), 3) := by decide +kernel
theorem dX8_night_115 : decode cX8_night 115 = .ok (.iload_n 3, 1) := by decide +kernel
theorem dX8_night_116 : decode cX8_night 116 = .ok (.ifCond .ne 6, 3) := by decide +kernel
theorem dX8_night_119 : decode cX8_night 119 = .ok (.iload 5, 2) := by decide +kernel
theorem dX8_night_121 : decode cX8_night 121 = .ok (.ireturn, 1) := by decide +kernel
theorem dX8_night_122 : decode cX8_night 122 = .ok (.iload_n 3, 1) := by decide +kernel
theorem dX8_night_123 : decode cX8_night 123 = .ok (.iconst 1, 1) := by decide +kernel
theorem dX8_night_124 : decode cX8_night 124 = .ok (.if_icmp .ne 16, 3) := by decide +kernel
theorem dX8_night_127 : decode cX8_night 127 = .ok (.aload_n 0, 1) := by decide +kernel
theorem dX8_night_128 : decode cX8_night 128 = .ok (.getfield 36, 3) := by decide +kernel
theorem dX8_night_131 : decode cX8_night 131 = .ok (.getfield 274, 3) := by decide +kernel
theorem dX8_night_134 : decode cX8_night 134 = .ok (.invokestatic 277, 3) := by decide +kernel
theorem dX8_night_137 : decode cX8_night 137 = .ok (.goto 13, 3) := by decide +kernel
theorem dX8_night_140 : decode cX8_night 140 = .ok (.aload_n 0, 1) := by decide +kernel
theorem dX8_night_141 : decode cX8_night 141 = .ok (.getfield 36, 3) := by decide +kernel
theorem dX8_night_144 : decode cX8_night 144 = .ok (.getfield 280, 3) := by decide +kernel
theorem dX8_night_147 : decode cX8_night 147 = .ok (.invokestatic 101, 3) := by decide +kernel
theorem dX8_night_150 : decode cX8_night 150 = .ok (.ireturn, 1) := by decide +kernel
set_option maxRecDepth 20000 in
theorem ggX8_image_X8_within : GoodIn wsX8_image wsX8_within := goodIn_r _ [7] (by decide +kernel) (by decide +kernel)
set_option maxRecDepth 20000 in
theorem gX8_image_X8_within : GoodIn wsX8_image (va_wsS RX8 61 yX8_within wsX8_within) := goodIn_app (goodIn_of _ (by decide +kernel)) ggX8_image_X8_within
set_option maxRecDepth 20000 in
theorem ggX8_image_X8_imageOf : GoodIn wsX8_image wsX8_imageOf := goodIn_r _ [11, 12, 13, 86, 87, 88, 89, 90, 91, 92, 93] (by decide +kernel) (by decide +kernel)
set_option maxRecDepth 20000 in
theorem gX8_image_X8_imageOf : GoodIn wsX8_image (wsV RX8 283 RX8 yX8_imageOf wsX8_imageOf) := goodIn_app (goodIn_of _ (by decide +kernel)) ggX8_image_X8_imageOf
set_option maxRecDepth 20000 in
theorem ggX8_image_X0_copyFrom : GoodIn wsX8_image wsX0_copyFrom := goodIn_r _ [18, 19, 20, 21, 22, 23, 24, 25, 26, 27, 28, 29, 30, 31, 17, 32, 33, 34, 35, 36, 37, 38, 39, 40, 6, 41, 42, 43, 44, 45, 46, 47, 48, 49, 50, 51, 52, 53, 54, 55, 56, 57, 58, 59, 60, 61, 62, 63, 64, 65, 66, 67, 68, 69, 70, 71, 72, 73, 74, 75, 76, 77, 78, 79, 80, 81, 82, 83, 94, 95, 96, 97, 98, 99, 100, 101, 102, 103, 104, 105, 106, 107, 108, 109, 110] (by decide +kernel) (by decide +kernel)
set_option maxRecDepth 20000 in
theorem gX8_image_X0_copyFrom : GoodIn wsX8_image (wsV RX8 290 RX0 yX0_copyFrom wsX0_copyFrom) := goodIn_app (goodIn_of _ (by decide +kernel)) ggX8_image_X0_copyFrom
theorem dX8_image_0 : decode cX8_image 0 = .ok (.iload_n 1, 1) := by decide +kernel
theorem dX8_image_1 : decode cX8_image 1 = .ok (.iconst 0, 1) := by decide +kernel
theorem dX8_image_2 : decode cX8_image 2 = .ok (.iconst 1, 1) := by decide +kernel
theorem dX8_image_3 : decode cX8_image 3 = .ok (.invokestatic 61, 3) := by decide +kernel
theorem dX8_image_6 : decode cX8_image 6 = .ok (.ifCond .ne 6, 3) := by decide +kernel
theorem dX8_image_9 : decode cX8_image 9 = .ok (.bipush (-2), 2) := by decide +kernel
theorem dX8_image_11 : decode cX8_image 11 = .ok (.ireturn, 1) := by decide +kernel
theorem dX8_image_12 : decode cX8_image 12 = .ok (.aload_n 0, 1) := by decide +kernel
theorem dX8_image_13 : decode cX8_image 13 = .ok (.iload_n 1, 1) := by decide +kernel
theorem dX8_image_14 : decode cX8_image 14 = .ok (.invokevirtual 283, 3) := by decide +kernel
theorem dX8_image_17 : decode cX8_image 17 = .ok (.astore_n 2, 1) := by decide +kernel
theorem dX8_image_18 : decode cX8_image 18 = .ok (.aload_n 2, 1) := by decide +kernel
theorem dX8_image_19 : decode cX8_image 19 = .ok (.getfield 287, 3) := by decide +kernel
theorem dX8_image_22 : decode cX8_image 22 = .ok (.aload_n 0, 1) := by decide +kernel
theorem dX8_image_23 : decode cX8_image 23 = .ok (.getfield 19, 3) := by decide +kernel
theorem dX8_image_26 : decode cX8_image 26 = .ok (.invokevirtual 290, 3) := by decide +kernel
theorem dX8_image_29 : decode cX8_image 29 = .ok (.aload_n 2, 1) := by decide +kernel
theorem dX8_image_30 : decode cX8_image 30 = .ok (.iconst 1, 1) := by decide +kernel
theorem dX8_image_31 : decode cX8_image 31 = .ok (.putfield 293, 3) := by decide +kernel
theorem dX8_image_34 : decode cX8_image 34 = .ok (.iconst 1, 1) := by decide +kernel
theorem dX8_image_35 : decode cX8_image 35 = .ok (.ireturn, 1) := by decide +kernel
set_option maxRecDepth 20000 in
theorem ggX8_restore_X8_within : GoodIn wsX8_restore wsX8_within := goodIn_r _ [7] (by decide +kernel) (by decide +kernel)
set_option maxRecDepth 20000 in
theorem gX8_restore_X8_within : GoodIn wsX8_restore (va_wsS RX8 61 yX8_within wsX8_within) := goodIn_app (goodIn_of _ (by decide +kernel)) ggX8_restore_X8_within
set_option maxRecDepth 20000 in
theorem ggX8_restore_X8_imageOf : GoodIn wsX8_restore wsX8_imageOf := goodIn_r _ [11, 12, 13, 86, 87, 88, 89, 90, 91, 92, 93] (by decide +kernel) (by decide +kernel)
set_option maxRecDepth 20000 in
theorem gX8_restore_X8_imageOf : GoodIn wsX8_restore (wsV RX8 283 RX8 yX8_imageOf wsX8_imageOf) := goodIn_app (goodIn_of _ (by decide +kernel)) ggX8_restore_X8_imageOf
set_option maxRecDepth 20000 in
theorem ggX8_restore_X0_copyFrom : GoodIn wsX8_restore wsX0_copyFrom := goodIn_r _ [18, 19, 20, 21, 22, 23, 24, 25, 26, 27, 28, 29, 30, 31, 17, 32, 33, 34, 35, 36, 37, 38, 39, 40, 6, 41, 42, 43, 44, 45, 46, 47, 48, 49, 50, 51, 52, 53, 54, 55, 56, 57, 58, 59, 60, 61, 62, 63, 64, 65, 66, 67, 68, 69, 70, 71, 72, 73, 74, 75, 76, 77, 78, 79, 80, 81, 82, 83, 94, 95, 96, 97, 98, 99, 100, 101, 102, 103, 104, 105, 106, 107, 108, 109, 110] (by decide +kernel) (by decide +kernel)
set_option maxRecDepth 20000 in
theorem gX8_restore_X0_copyFrom : GoodIn wsX8_restore (wsV RX8 290 RX0 yX0_copyFrom wsX0_copyFrom) := goodIn_app (goodIn_of _ (by decide +kernel)) ggX8_restore_X0_copyFrom
theorem dX8_restore_0 : decode cX8_restore 0 = .ok (.iload_n 1, 1) := by decide +kernel
theorem dX8_restore_1 : decode cX8_restore 1 = .ok (.iconst 0, 1) := by decide +kernel
theorem dX8_restore_2 : decode cX8_restore 2 = .ok (.iconst 1, 1) := by decide +kernel
theorem dX8_restore_3 : decode cX8_restore 3 = .ok (.invokestatic 61, 3) := by decide +kernel
theorem dX8_restore_6 : decode cX8_restore 6 = .ok (.ifCond .ne 6, 3) := by decide +kernel
theorem dX8_restore_9 : decode cX8_restore 9 = .ok (.bipush (-2), 2) := by decide +kernel
theorem dX8_restore_11 : decode cX8_restore 11 = .ok (.ireturn, 1) := by decide +kernel
theorem dX8_restore_12 : decode cX8_restore 12 = .ok (.aload_n 0, 1) := by decide +kernel
theorem dX8_restore_13 : decode cX8_restore 13 = .ok (.iload_n 1, 1) := by decide +kernel
theorem dX8_restore_14 : decode cX8_restore 14 = .ok (.invokevirtual 283, 3) := by decide +kernel
theorem dX8_restore_17 : decode cX8_restore 17 = .ok (.astore_n 2, 1) := by decide +kernel
theorem dX8_restore_18 : decode cX8_restore 18 = .ok (.aload_n 2, 1) := by decide +kernel
theorem dX8_restore_19 : decode cX8_restore 19 = .ok (.getfield 293, 3) := by decide +kernel
theorem dX8_restore_22 : decode cX8_restore 22 = .ok (.ifCond .ne 6, 3) := by decide +kernel
theorem dX8_restore_25 : decode cX8_restore 25 = .ok (.bipush (-3), 2) := by decide +kernel
theorem dX8_restore_27 : decode cX8_restore 27 = .ok (.ireturn, 1) := by decide +kernel
theorem dX8_restore_28 : decode cX8_restore 28 = .ok (.aload_n 0, 1) := by decide +kernel
theorem dX8_restore_29 : decode cX8_restore 29 = .ok (.getfield 19, 3) := by decide +kernel
theorem dX8_restore_32 : decode cX8_restore 32 = .ok (.aload_n 2, 1) := by decide +kernel
theorem dX8_restore_33 : decode cX8_restore 33 = .ok (.getfield 287, 3) := by decide +kernel
theorem dX8_restore_36 : decode cX8_restore 36 = .ok (.invokevirtual 290, 3) := by decide +kernel
theorem dX8_restore_39 : decode cX8_restore 39 = .ok (.iconst 1, 1) := by decide +kernel
theorem dX8_restore_40 : decode cX8_restore 40 = .ok (.ireturn, 1) := by decide +kernel
theorem dX8_imageOf_0 : decode cX8_imageOf 0 = .ok (.iload_n 1, 1) := by decide +kernel
theorem dX8_imageOf_1 : decode cX8_imageOf 1 = .ok (.ifCond .ne 10, 3) := by decide +kernel
theorem dX8_imageOf_4 : decode cX8_imageOf 4 = .ok (.aload_n 0, 1) := by decide +kernel
theorem dX8_imageOf_5 : decode cX8_imageOf 5 = .ok (.getfield 26, 3) := by decide +kernel
theorem dX8_imageOf_8 : decode cX8_imageOf 8 = .ok (.goto 7, 3) := by decide +kernel
theorem dX8_imageOf_11 : decode cX8_imageOf 11 = .ok (.aload_n 0, 1) := by decide +kernel
theorem dX8_imageOf_12 : decode cX8_imageOf 12 = .ok (.getfield 30, 3) := by decide +kernel
theorem dX8_imageOf_15 : decode cX8_imageOf 15 = .ok (.areturn, 1) := by decide +kernel
set_option maxRecDepth 20000 in
theorem ggX8_told_X8_toldOfWatcher : GoodIn wsX8_told wsX8_toldOfWatcher := goodIn_r _ [15, 3, 8, 16, 17, 18, 19, 20, 21, 22, 23, 24, 25, 26, 27, 14, 28, 29, 30, 31, 32, 33, 34, 35, 36, 37, 38, 39, 40, 41, 42, 43, 44, 45, 46, 49, 50, 51, 52, 53, 54, 55, 56, 57, 58, 59, 60, 61, 62, 63, 64, 65] (by decide +kernel) (by decide +kernel)
set_option maxRecDepth 20000 in
theorem gX8_told_X8_toldOfWatcher : GoodIn wsX8_told (wsV RX8 303 RX8 yX8_toldOfWatcher wsX8_toldOfWatcher) := goodIn_app (goodIn_of _ (by decide +kernel)) ggX8_told_X8_toldOfWatcher
theorem dX8_told_0 : decode cX8_told 0 = .ok (.iload_n 1, 1) := by decide +kernel
theorem dX8_told_1 : decode cX8_told 1 = .ok (.tableswitch 102 0 6 #[43, 51, 59, 67, 75, 83, 94], 43) := by decide +kernel
theorem dX8_told_44 : decode cX8_told 44 = .ok (.aload_n 0, 1) := by decide +kernel
theorem dX8_told_45 : decode cX8_told 45 = .ok (.getfield 10, 3) := by decide +kernel
theorem dX8_told_48 : decode cX8_told 48 = .ok (.getfield 77, 3) := by decide +kernel
theorem dX8_told_51 : decode cX8_told 51 = .ok (.ireturn, 1) := by decide +kernel
theorem dX8_told_52 : decode cX8_told 52 = .ok (.aload_n 0, 1) := by decide +kernel
theorem dX8_told_53 : decode cX8_told 53 = .ok (.getfield 19, 3) := by decide +kernel
theorem dX8_told_56 : decode cX8_told 56 = .ok (.getfield 297, 3) := by decide +kernel
theorem dX8_told_59 : decode cX8_told 59 = .ok (.ireturn, 1) := by decide +kernel
theorem dX8_told_60 : decode cX8_told 60 = .ok (.aload_n 0, 1) := by decide +kernel
theorem dX8_told_61 : decode cX8_told 61 = .ok (.getfield 19, 3) := by decide +kernel
theorem dX8_told_64 : decode cX8_told 64 = .ok (.getfield 300, 3) := by decide +kernel
theorem dX8_told_67 : decode cX8_told 67 = .ok (.ireturn, 1) := by decide +kernel
theorem dX8_told_68 : decode cX8_told 68 = .ok (.aload_n 0, 1) := by decide +kernel
theorem dX8_told_69 : decode cX8_told 69 = .ok (.getfield 19, 3) := by decide +kernel
theorem dX8_told_72 : decode cX8_told 72 = .ok (.getfield 164, 3) := by decide +kernel
theorem dX8_told_75 : decode cX8_told 75 = .ok (.ireturn, 1) := by decide +kernel
theorem dX8_told_76 : decode cX8_told 76 = .ok (.aload_n 0, 1) := by decide +kernel
theorem dX8_told_77 : decode cX8_told 77 = .ok (.getfield 19, 3) := by decide +kernel
theorem dX8_told_80 : decode cX8_told 80 = .ok (.getfield 170, 3) := by decide +kernel
theorem dX8_told_83 : decode cX8_told 83 = .ok (.ireturn, 1) := by decide +kernel
theorem dX8_told_84 : decode cX8_told 84 = .ok (.aload_n 0, 1) := by decide +kernel
theorem dX8_told_85 : decode cX8_told 85 = .ok (.getfield 19, 3) := by decide +kernel
theorem dX8_told_88 : decode cX8_told 88 = .ok (.getfield 126, 3) := by decide +kernel
theorem dX8_told_91 : decode cX8_told 91 = .ok (.getfield 135, 3) := by decide +kernel
theorem dX8_told_94 : decode cX8_told 94 = .ok (.ireturn, 1) := by decide +kernel
theorem dX8_told_95 : decode cX8_told 95 = .ok (.aload_n 0, 1) := by decide +kernel
theorem dX8_told_96 : decode cX8_told 96 = .ok (.getfield 19, 3) := by decide +kernel
theorem dX8_told_99 : decode cX8_told 99 = .ok (.getfield 139, 3) := by decide +kernel
theorem dX8_told_102 : decode cX8_told 102 = .ok (.ireturn, 1) := by decide +kernel
theorem dX8_told_103 : decode cX8_told 103 = .ok (.iload_n 1, 1) := by decide +kernel
theorem dX8_told_104 : decode cX8_told 104 = .ok (.bipush 10, 2) := by decide +kernel
theorem dX8_told_106 : decode cX8_told 106 = .ok (.if_icmp .ge 8, 3) := by decide +kernel
theorem dX8_told_109 : decode cX8_told 109 = .ok (.bipush (-2), 2) := by decide +kernel
theorem dX8_told_111 : decode cX8_told 111 = .ok (.goto 17, 3) := by decide +kernel
theorem dX8_told_114 : decode cX8_told 114 = .ok (.aload_n 0, 1) := by decide +kernel
theorem dX8_told_115 : decode cX8_told 115 = .ok (.iload_n 1, 1) := by decide +kernel
theorem dX8_told_116 : decode cX8_told 116 = .ok (.bipush 10, 2) := by decide +kernel
theorem dX8_told_118 : decode cX8_told 118 = .ok (.idiv, 1) := by decide +kernel
theorem dX8_told_119 : decode cX8_told 119 = .ok (.iconst 1, 1) := by decide +kernel
theorem dX8_told_120 : decode cX8_told 120 = .ok (.isub, 1) := by decide +kernel
theorem dX8_told_121 : decode cX8_told 121 = .ok (.iload_n 1, 1) := by decide +kernel
theorem dX8_told_122 : decode cX8_told 122 = .ok (.bipush 10, 2) := by decide +kernel
theorem dX8_told_124 : decode cX8_told 124 = .ok (.irem, 1) := by decide +kernel
theorem dX8_told_125 : decode cX8_told 125 = .ok (.invokevirtual 303, 3) := by decide +kernel
theorem dX8_told_128 : decode cX8_told 128 = .ok (.ireturn, 1) := by decide +kernel
set_option maxRecDepth 20000 in
theorem ggX8_toldOfWatcher_X4_isOne : GoodIn wsX8_toldOfWatcher wsX4_isOne := goodIn_r _ [7, 8, 48, 49, 50, 51] (by decide +kernel) (by decide +kernel)
set_option maxRecDepth 20000 in
theorem gX8_toldOfWatcher_X4_isOne : GoodIn wsX8_toldOfWatcher (wsV RX8 151 RX4 yX4_isOne wsX4_isOne) := goodIn_app (goodIn_of _ (by decide +kernel)) ggX8_toldOfWatcher_X4_isOne
set_option maxRecDepth 20000 in
theorem ggX8_toldOfWatcher_X4_cellOfOne : GoodIn wsX8_toldOfWatcher wsX4_cellOfOne := goodIn_r _ [12, 13, 14, 15, 16, 48, 49, 50, 51] (by decide +kernel) (by decide +kernel)
set_option maxRecDepth 20000 in
theorem gX8_toldOfWatcher_X4_cellOfOne : GoodIn wsX8_toldOfWatcher (wsV RX8 306 RX4 yX4_cellOfOne wsX4_cellOfOne) := goodIn_app (goodIn_of _ (by decide +kernel)) ggX8_toldOfWatcher_X4_cellOfOne
set_option maxRecDepth 20000 in
theorem ggX8_toldOfWatcher_X4_lookingOf : GoodIn wsX8_toldOfWatcher wsX4_lookingOf := goodIn_r _ [20, 21, 14, 15, 16, 48, 49, 50, 51] (by decide +kernel) (by decide +kernel)
set_option maxRecDepth 20000 in
theorem gX8_toldOfWatcher_X4_lookingOf : GoodIn wsX8_toldOfWatcher (wsV RX8 309 RX4 yX4_lookingOf wsX4_lookingOf) := goodIn_app (goodIn_of _ (by decide +kernel)) ggX8_toldOfWatcher_X4_lookingOf
set_option maxRecDepth 20000 in
theorem ggX8_toldOfWatcher_X4_hasDog : GoodIn wsX8_toldOfWatcher wsX4_hasDog := goodIn_r _ [25, 26, 14, 15, 16, 48, 49, 50, 51] (by decide +kernel) (by decide +kernel)
set_option maxRecDepth 20000 in
theorem gX8_toldOfWatcher_X4_hasDog : GoodIn wsX8_toldOfWatcher (wsV RX8 312 RX4 yX4_hasDog wsX4_hasDog) := goodIn_app (goodIn_of _ (by decide +kernel)) ggX8_toldOfWatcher_X4_hasDog
theorem dX8_toldOfWatcher_0 : decode cX8_toldOfWatcher 0 = .ok (.aload_n 0, 1) := by decide +kernel
theorem dX8_toldOfWatcher_1 : decode cX8_toldOfWatcher 1 = .ok (.getfield 19, 3) := by decide +kernel
theorem dX8_toldOfWatcher_4 : decode cX8_toldOfWatcher 4 = .ok (.getfield 126, 3) := by decide +kernel
theorem dX8_toldOfWatcher_7 : decode cX8_toldOfWatcher 7 = .ok (.iload_n 1, 1) := by decide +kernel
theorem dX8_toldOfWatcher_8 : decode cX8_toldOfWatcher 8 = .ok (.invokevirtual 151, 3) := by decide +kernel
theorem dX8_toldOfWatcher_11 : decode cX8_toldOfWatcher 11 = .ok (.ifCond .ne 6, 3) := by decide +kernel
theorem dX8_toldOfWatcher_14 : decode cX8_toldOfWatcher 14 = .ok (.bipush (-2), 2) := by decide +kernel
theorem dX8_toldOfWatcher_16 : decode cX8_toldOfWatcher 16 = .ok (.ireturn, 1) := by decide +kernel
theorem dX8_toldOfWatcher_17 : decode cX8_toldOfWatcher 17 = .ok (.iload_n 2, 1) := by decide +kernel
theorem dX8_toldOfWatcher_18 : decode cX8_toldOfWatcher 18 = .ok (.tableswitch 70 0 2 #[26, 38, 50], 26) := by decide +kernel
theorem dX8_toldOfWatcher_44 : decode cX8_toldOfWatcher 44 = .ok (.aload_n 0, 1) := by decide +kernel
theorem dX8_toldOfWatcher_45 : decode cX8_toldOfWatcher 45 = .ok (.getfield 19, 3) := by decide +kernel
theorem dX8_toldOfWatcher_48 : decode cX8_toldOfWatcher 48 = .ok (.getfield 126, 3) := by decide +kernel
theorem dX8_toldOfWatcher_51 : decode cX8_toldOfWatcher 51 = .ok (.iload_n 1, 1) := by decide +kernel
theorem dX8_toldOfWatcher_52 : decode cX8_toldOfWatcher 52 = .ok (.invokevirtual 306, 3) := by decide +kernel
theorem dX8_toldOfWatcher_55 : decode cX8_toldOfWatcher 55 = .ok (.ireturn, 1) := by decide +kernel
theorem dX8_toldOfWatcher_56 : decode cX8_toldOfWatcher 56 = .ok (.aload_n 0, 1) := by decide +kernel
theorem dX8_toldOfWatcher_57 : decode cX8_toldOfWatcher 57 = .ok (.getfield 19, 3) := by decide +kernel
theorem dX8_toldOfWatcher_60 : decode cX8_toldOfWatcher 60 = .ok (.getfield 126, 3) := by decide +kernel
theorem dX8_toldOfWatcher_63 : decode cX8_toldOfWatcher 63 = .ok (.iload_n 1, 1) := by decide +kernel
theorem dX8_toldOfWatcher_64 : decode cX8_toldOfWatcher 64 = .ok (.invokevirtual 309, 3) := by decide +kernel
theorem dX8_toldOfWatcher_67 : decode cX8_toldOfWatcher 67 = .ok (.ireturn, 1) := by decide +kernel
theorem dX8_toldOfWatcher_68 : decode cX8_toldOfWatcher 68 = .ok (.aload_n 0, 1) := by decide +kernel
theorem dX8_toldOfWatcher_69 : decode cX8_toldOfWatcher 69 = .ok (.getfield 19, 3) := by decide +kernel
theorem dX8_toldOfWatcher_72 : decode cX8_toldOfWatcher 72 = .ok (.getfield 126, 3) := by decide +kernel
theorem dX8_toldOfWatcher_75 : decode cX8_toldOfWatcher 75 = .ok (.iload_n 1, 1) := by decide +kernel
theorem dX8_toldOfWatcher_76 : decode cX8_toldOfWatcher 76 = .ok (.invokevirtual 312, 3) := by decide +kernel
theorem dX8_toldOfWatcher_79 : decode cX8_toldOfWatcher 79 = .ok (.ifCond .eq 7, 3) := by decide +kernel
theorem dX8_toldOfWatcher_82 : decode cX8_toldOfWatcher 82 = .ok (.iconst 1, 1) := by decide +kernel
theorem dX8_toldOfWatcher_83 : decode cX8_toldOfWatcher 83 = .ok (.goto 4, 3) := by decide +kernel
theorem dX8_toldOfWatcher_86 : decode cX8_toldOfWatcher 86 = .ok (.iconst 0, 1) := by decide +kernel
theorem dX8_toldOfWatcher_87 : decode cX8_toldOfWatcher 87 = .ok (.ireturn, 1) := by decide +kernel
theorem dX8_toldOfWatcher_88 : decode cX8_toldOfWatcher 88 = .ok (.bipush (-2), 2) := by decide +kernel
theorem dX8_toldOfWatcher_90 : decode cX8_toldOfWatcher 90 = .ok (.ireturn, 1) := by decide +kernel
theorem dX8_within_0 : decode cX8_within 0 = .ok (.iload_n 0, 1) := by decide +kernel
theorem dX8_within_1 : decode cX8_within 1 = .ok (.iload_n 1, 1) := by decide +kernel
theorem dX8_within_2 : decode cX8_within 2 = .ok (.if_icmp .lt 12, 3) := by decide +kernel
theorem dX8_within_5 : decode cX8_within 5 = .ok (.iload_n 0, 1) := by decide +kernel
theorem dX8_within_6 : decode cX8_within 6 = .ok (.iload_n 2, 1) := by decide +kernel
theorem dX8_within_7 : decode cX8_within 7 = .ok (.if_icmp .gt 7, 3) := by decide +kernel
theorem dX8_within_10 : decode cX8_within 10 = .ok (.iconst 1, 1) := by decide +kernel
theorem dX8_within_11 : decode cX8_within 11 = .ok (.goto 4, 3) := by decide +kernel
theorem dX8_within_14 : decode cX8_within 14 = .ok (.iconst 0, 1) := by decide +kernel
theorem dX8_within_15 : decode cX8_within 15 = .ok (.ireturn, 1) := by decide +kernel
theorem dX8_bit_0 : decode cX8_bit 0 = .ok (.iconst 1, 1) := by decide +kernel
theorem dX8_bit_1 : decode cX8_bit 1 = .ok (.iload_n 0, 1) := by decide +kernel
theorem dX8_bit_2 : decode cX8_bit 2 = .ok (.ishl, 1) := by decide +kernel
theorem dX8_bit_3 : decode cX8_bit 3 = .ok (.ireturn, 1) := by decide +kernel
theorem dX8_has_0 : decode cX8_has 0 = .ok (.iload_n 0, 1) := by decide +kernel
theorem dX8_has_1 : decode cX8_has 1 = .ok (.iload_n 1, 1) := by decide +kernel
theorem dX8_has_2 : decode cX8_has 2 = .ok (.iushr, 1) := by decide +kernel
theorem dX8_has_3 : decode cX8_has 3 = .ok (.iconst 1, 1) := by decide +kernel
theorem dX8_has_4 : decode cX8_has 4 = .ok (.iand, 1) := by decide +kernel
theorem dX8_has_5 : decode cX8_has 5 = .ok (.ifCond .eq 7, 3) := by decide +kernel
theorem dX8_has_8 : decode cX8_has 8 = .ok (.iconst 1, 1) := by decide +kernel
theorem dX8_has_9 : decode cX8_has 9 = .ok (.goto 4, 3) := by decide +kernel
theorem dX8_has_12 : decode cX8_has 12 = .ok (.iconst 0, 1) := by decide +kernel
theorem dX8_has_13 : decode cX8_has 13 = .ok (.ireturn, 1) := by decide +kernel
set_option maxRecDepth 20000 in
theorem ggX8_cellOf_J6_bitCount_0f7a4 : GoodIn wsX8_cellOf wsJ6_bitCount_0f7a4 := goodIn_r _ [4, 5, 6, 7] (by decide +kernel) (by decide +kernel)
set_option maxRecDepth 20000 in
theorem gX8_cellOf_J6_bitCount_0f7a4 : GoodIn wsX8_cellOf (va_wsS RX8 101 yJ6_bitCount_0f7a4 wsJ6_bitCount_0f7a4) := goodIn_app (goodIn_of _ (by decide +kernel)) ggX8_cellOf_J6_bitCount_0f7a4
theorem dX8_cellOf_0 : decode cX8_cellOf 0 = .ok (.iload_n 0, 1) := by decide +kernel
theorem dX8_cellOf_1 : decode cX8_cellOf 1 = .ok (.iconst 1, 1) := by decide +kernel
theorem dX8_cellOf_2 : decode cX8_cellOf 2 = .ok (.isub, 1) := by decide +kernel
theorem dX8_cellOf_3 : decode cX8_cellOf 3 = .ok (.invokestatic 101, 3) := by decide +kernel
theorem dX8_cellOf_6 : decode cX8_cellOf 6 = .ok (.ireturn, 1) := by decide +kernel
set_option maxRecDepth 20000 in
theorem ggX8_power_X8_longPower : GoodIn wsX8_power wsX8_longPower := goodIn_r _ [4] (by decide +kernel) (by decide +kernel)
set_option maxRecDepth 20000 in
theorem gX8_power_X8_longPower : GoodIn wsX8_power (va_wsS RX8 258 yX8_longPower wsX8_longPower) := goodIn_app (goodIn_of _ (by decide +kernel)) ggX8_power_X8_longPower
theorem dX8_power_0 : decode cX8_power 0 = .ok (.iload_n 0, 1) := by decide +kernel
theorem dX8_power_1 : decode cX8_power 1 = .ok (.iload_n 1, 1) := by decide +kernel
theorem dX8_power_2 : decode cX8_power 2 = .ok (.invokestatic 258, 3) := by decide +kernel
theorem dX8_power_5 : decode cX8_power 5 = .ok (.l2i, 1) := by decide +kernel
theorem dX8_power_6 : decode cX8_power 6 = .ok (.ireturn, 1) := by decide +kernel
theorem dX8_longPower_0 : decode cX8_longPower 0 = .ok (.lconst 1, 1) := by decide +kernel
theorem dX8_longPower_1 : decode cX8_longPower 1 = .ok (.lstore_n 2, 1) := by decide +kernel
theorem dX8_longPower_2 : decode cX8_longPower 2 = .ok (.iconst 0, 1) := by decide +kernel
theorem dX8_longPower_3 : decode cX8_longPower 3 = .ok (.istore 4, 2) := by decide +kernel
theorem dX8_longPower_5 : decode cX8_longPower 5 = .ok (.iload 4, 2) := by decide +kernel
theorem dX8_longPower_7 : decode cX8_longPower 7 = .ok (.iload_n 1, 1) := by decide +kernel
theorem dX8_longPower_8 : decode cX8_longPower 8 = .ok (.if_icmp .ge 14, 3) := by decide +kernel
theorem dX8_longPower_11 : decode cX8_longPower 11 = .ok (.lload_n 2, 1) := by decide +kernel
theorem dX8_longPower_12 : decode cX8_longPower 12 = .ok (.iload_n 0, 1) := by decide +kernel
theorem dX8_longPower_13 : decode cX8_longPower 13 = .ok (.i2l, 1) := by decide +kernel
theorem dX8_longPower_14 : decode cX8_longPower 14 = .ok (.lmul, 1) := by decide +kernel
theorem dX8_longPower_15 : decode cX8_longPower 15 = .ok (.lstore_n 2, 1) := by decide +kernel
theorem dX8_longPower_16 : decode cX8_longPower 16 = .ok (.iinc 4 1, 3) := by decide +kernel
theorem dX8_longPower_19 : decode cX8_longPower 19 = .ok (.goto (-14), 3) := by decide +kernel
theorem dX8_longPower_22 : decode cX8_longPower 22 = .ok (.lload_n 2, 1) := by decide +kernel
theorem dX8_longPower_23 : decode cX8_longPower 23 = .ok (.lreturn, 1) := by decide +kernel
theorem dX8_at_0 : decode cX8_at 0 = .ok (.iload_n 1, 1) := by decide +kernel
theorem dX8_at_1 : decode cX8_at 1 = .ok (.ifCond .lt 15, 3) := by decide +kernel
theorem dX8_at_4 : decode cX8_at 4 = .ok (.iload_n 1, 1) := by decide +kernel
theorem dX8_at_5 : decode cX8_at 5 = .ok (.aload_n 0, 1) := by decide +kernel
theorem dX8_at_6 : decode cX8_at 6 = .ok (.arraylength, 1) := by decide +kernel
theorem dX8_at_7 : decode cX8_at 7 = .ok (.if_icmp .ge 9, 3) := by decide +kernel
theorem dX8_at_10 : decode cX8_at 10 = .ok (.aload_n 0, 1) := by decide +kernel
theorem dX8_at_11 : decode cX8_at 11 = .ok (.iload_n 1, 1) := by decide +kernel
theorem dX8_at_12 : decode cX8_at 12 = .ok (.iaload, 1) := by decide +kernel
theorem dX8_at_13 : decode cX8_at 13 = .ok (.goto 4, 3) := by decide +kernel
theorem dX8_at_16 : decode cX8_at 16 = .ok (.iconst 0, 1) := by decide +kernel
theorem dX8_at_17 : decode cX8_at 17 = .ok (.ireturn, 1) := by decide +kernel
theorem dX8_put_0 : decode cX8_put 0 = .ok (.iload_n 1, 1) := by decide +kernel
theorem dX8_put_1 : decode cX8_put 1 = .ok (.ifCond .lt 13, 3) := by decide +kernel
theorem dX8_put_4 : decode cX8_put 4 = .ok (.iload_n 1, 1) := by decide +kernel
theorem dX8_put_5 : decode cX8_put 5 = .ok (.aload_n 0, 1) := by decide +kernel
theorem dX8_put_6 : decode cX8_put 6 = .ok (.arraylength, 1) := by decide +kernel
theorem dX8_put_7 : decode cX8_put 7 = .ok (.if_icmp .ge 7, 3) := by decide +kernel
theorem dX8_put_10 : decode cX8_put 10 = .ok (.aload_n 0, 1) := by decide +kernel
theorem dX8_put_11 : decode cX8_put 11 = .ok (.iload_n 1, 1) := by decide +kernel
theorem dX8_put_12 : decode cX8_put 12 = .ok (.iload_n 2, 1) := by decide +kernel
theorem dX8_put_13 : decode cX8_put 13 = .ok (.iastore, 1) := by decide +kernel
theorem dX8_put_14 : decode cX8_put 14 = .ok (.return_, 1) := by decide +kernel
set_option maxRecDepth 20000 in
theorem ggX8_signOfStep_J0_length_8abf5 : GoodIn wsX8_signOfStep wsJ0_length_8abf5 := goodIn_r _ [5, 6, 7, 8, 9, 4, 10, 11, 12] (by decide +kernel) (by decide +kernel)
set_option maxRecDepth 20000 in
theorem gX8_signOfStep_J0_length_8abf5 : GoodIn wsX8_signOfStep (wsV RX8 317 RJ0 yJ0_length_8abf5 wsJ0_length_8abf5) := goodIn_app (goodIn_of _ (by decide +kernel)) ggX8_signOfStep_J0_length_8abf5
set_option maxRecDepth 20000 in
theorem ggX8_signOfStep_X8_within : GoodIn wsX8_signOfStep wsX8_within := goodIn_r _ [16] (by decide +kernel) (by decide +kernel)
set_option maxRecDepth 20000 in
theorem gX8_signOfStep_X8_within : GoodIn wsX8_signOfStep (va_wsS RX8 61 yX8_within wsX8_within) := goodIn_app (goodIn_of _ (by decide +kernel)) ggX8_signOfStep_X8_within
set_option maxRecDepth 20000 in
theorem ggX8_signOfStep_J0_charAt_5068e : GoodIn wsX8_signOfStep wsJ0_charAt_5068e := goodIn_r _ [20, 6, 21, 22, 23, 4, 24, 11, 12, 25, 26, 27, 28, 29, 30, 31, 32, 33, 34, 35, 36, 37, 38, 39, 40, 41, 42, 43, 44, 45, 46, 47, 48, 49, 50, 51, 52, 53] (by decide +kernel) (by decide +kernel)
set_option maxRecDepth 20000 in
theorem gX8_signOfStep_J0_charAt_5068e : GoodIn wsX8_signOfStep (wsV RX8 321 RJ0 yJ0_charAt_5068e wsJ0_charAt_5068e) := goodIn_app (goodIn_of _ (by decide +kernel)) ggX8_signOfStep_J0_charAt_5068e
theorem dX8_signOfStep_0 : decode cX8_signOfStep 0 = .ok (.iload_n 0, 1) := by decide +kernel
theorem dX8_signOfStep_1 : decode cX8_signOfStep 1 = .ok (.iconst 0, 1) := by decide +kernel
theorem dX8_signOfStep_2 : decode cX8_signOfStep 2 = .ok (.ldc_w 315, 3) := by decide +kernel
theorem dX8_signOfStep_5 : decode cX8_signOfStep 5 = .ok (.invokevirtual 317, 3) := by decide +kernel
theorem dX8_signOfStep_8 : decode cX8_signOfStep 8 = .ok (.iconst 1, 1) := by decide +kernel
theorem dX8_signOfStep_9 : decode cX8_signOfStep 9 = .ok (.isub, 1) := by decide +kernel
theorem dX8_signOfStep_10 : decode cX8_signOfStep 10 = .ok (.invokestatic 61, 3) := by decide +kernel
theorem dX8_signOfStep_13 : decode cX8_signOfStep 13 = .ok (.ifCond .eq 13, 3) := by decide +kernel
theorem dX8_signOfStep_16 : decode cX8_signOfStep 16 = .ok (.ldc_w 315, 3) := by decide +kernel
theorem dX8_signOfStep_19 : decode cX8_signOfStep 19 = .ok (.iload_n 0, 1) := by decide +kernel
theorem dX8_signOfStep_20 : decode cX8_signOfStep 20 = .ok (.invokevirtual 321, 3) := by decide +kernel
theorem dX8_signOfStep_23 : decode cX8_signOfStep 23 = .ok (.goto 5, 3) := by decide +kernel
theorem dX8_signOfStep_26 : decode cX8_signOfStep 26 = .ok (.bipush (-6), 2) := by decide +kernel
theorem dX8_signOfStep_28 : decode cX8_signOfStep 28 = .ok (.ireturn, 1) := by decide +kernel
set_option maxRecDepth 20000 in
theorem ggX9_init_X9_lay : GoodIn wsX9_init wsX9_lay := goodIn_r _ [23, 24, 25, 5, 26, 27, 28, 29, 30, 31, 32, 33, 34, 35, 36, 37, 38, 39, 40, 41, 42, 43, 44, 45, 46, 47, 48, 49, 50, 51, 52, 53, 54, 55, 56, 57, 58, 59, 60] (by decide +kernel) (by decide +kernel)
set_option maxRecDepth 20000 in
theorem gX9_init_X9_lay : GoodIn wsX9_init (wsV RX9 51 RX9 yX9_lay wsX9_lay) := goodIn_app (goodIn_of _ (by decide +kernel)) ggX9_init_X9_lay
theorem dX9_init_0 : decode cX9_init 0 = .ok (.aload_n 0, 1) := by decide +kernel
theorem dX9_init_1 : decode cX9_init 1 = .ok (.invokespecial 1, 3) := by decide +kernel
theorem dX9_init_4 : decode cX9_init 4 = .ok (.aload_n 0, 1) := by decide +kernel
theorem dX9_init_5 : decode cX9_init 5 = .ok (.bipush 16, 2) := by decide +kernel
theorem dX9_init_7 : decode cX9_init 7 = .ok (.newarray .int, 2) := by decide +kernel
theorem dX9_init_9 : decode cX9_init 9 = .ok (.putfield 7, 3) := by decide +kernel
theorem dX9_init_12 : decode cX9_init 12 = .ok (.aload_n 0, 1) := by decide +kernel
theorem dX9_init_13 : decode cX9_init 13 = .ok (.iconst 4, 1) := by decide +kernel
theorem dX9_init_14 : decode cX9_init 14 = .ok (.newarray .int, 2) := by decide +kernel
theorem dX9_init_16 : decode cX9_init 16 = .ok (.putfield 13, 3) := by decide +kernel
theorem dX9_init_19 : decode cX9_init 19 = .ok (.aload_n 0, 1) := by decide +kernel
theorem dX9_init_20 : decode cX9_init 20 = .ok (.iconst 4, 1) := by decide +kernel
theorem dX9_init_21 : decode cX9_init 21 = .ok (.newarray .int, 2) := by decide +kernel
theorem dX9_init_23 : decode cX9_init 23 = .ok (.putfield 16, 3) := by decide +kernel
theorem dX9_init_26 : decode cX9_init 26 = .ok (.aload_n 0, 1) := by decide +kernel
theorem dX9_init_27 : decode cX9_init 27 = .ok (.iconst 4, 1) := by decide +kernel
theorem dX9_init_28 : decode cX9_init 28 = .ok (.newarray .int, 2) := by decide +kernel
theorem dX9_init_30 : decode cX9_init 30 = .ok (.putfield 19, 3) := by decide +kernel
theorem dX9_init_33 : decode cX9_init 33 = .ok (.aload_n 0, 1) := by decide +kernel
theorem dX9_init_34 : decode cX9_init 34 = .ok (.bipush 40, 2) := by decide +kernel
theorem dX9_init_36 : decode cX9_init 36 = .ok (.newarray .int, 2) := by decide +kernel
theorem dX9_init_38 : decode cX9_init 38 = .ok (.putfield 22, 3) := by decide +kernel
theorem dX9_init_41 : decode cX9_init 41 = .ok (.aload_n 0, 1) := by decide +kernel
theorem dX9_init_42 : decode cX9_init 42 = .ok (.bipush 16, 2) := by decide +kernel
theorem dX9_init_44 : decode cX9_init 44 = .ok (.newarray .int, 2) := by decide +kernel
theorem dX9_init_46 : decode cX9_init 46 = .ok (.putfield 25, 3) := by decide +kernel
theorem dX9_init_49 : decode cX9_init 49 = .ok (.aload_n 0, 1) := by decide +kernel
theorem dX9_init_50 : decode cX9_init 50 = .ok (.bipush 32, 2) := by decide +kernel
theorem dX9_init_52 : decode cX9_init 52 = .ok (.newarray .int, 2) := by decide +kernel
theorem dX9_init_54 : decode cX9_init 54 = .ok (.putfield 28, 3) := by decide +kernel
theorem dX9_init_57 : decode cX9_init 57 = .ok (.aload_n 0, 1) := by decide +kernel
theorem dX9_init_58 : decode cX9_init 58 = .ok (.bipush 16, 2) := by decide +kernel
theorem dX9_init_60 : decode cX9_init 60 = .ok (.newarray .int, 2) := by decide +kernel
theorem dX9_init_62 : decode cX9_init 62 = .ok (.putfield 31, 3) := by decide +kernel
theorem dX9_init_65 : decode cX9_init 65 = .ok (.aload_n 0, 1) := by decide +kernel
theorem dX9_init_66 : decode cX9_init 66 = .ok (.bipush 16, 2) := by decide +kernel
theorem dX9_init_68 : decode cX9_init 68 = .ok (.newarray .int, 2) := by decide +kernel
theorem dX9_init_70 : decode cX9_init 70 = .ok (.putfield 34, 3) := by decide +kernel
theorem dX9_init_73 : decode cX9_init 73 = .ok (.aload_n 0, 1) := by decide +kernel
theorem dX9_init_74 : decode cX9_init 74 = .ok (.bipush 16, 2) := by decide +kernel
theorem dX9_init_76 : decode cX9_init 76 = .ok (.newarray .int, 2) := by decide +kernel
theorem dX9_init_78 : decode cX9_init 78 = .ok (.putfield 37, 3) := by decide +kernel
theorem dX9_init_81 : decode cX9_init 81 = .ok (.aload_n 0, 1) := by decide +kernel
theorem dX9_init_82 : decode cX9_init 82 = .ok (.bipush 80, 2) := by decide +kernel
theorem dX9_init_84 : decode cX9_init 84 = .ok (.newarray .int, 2) := by decide +kernel
theorem dX9_init_86 : decode cX9_init 86 = .ok (.putfield 40, 3) := by decide +kernel
theorem dX9_init_89 : decode cX9_init 89 = .ok (.aload_n 0, 1) := by decide +kernel
theorem dX9_init_90 : decode cX9_init 90 = .ok (.iconst 2, 1) := by decide +kernel
theorem dX9_init_91 : decode cX9_init 91 = .ok (.newarray .boolean, 2) := by decide +kernel
theorem dX9_init_93 : decode cX9_init 93 = .ok (.putfield 43, 3) := by decide +kernel
theorem dX9_init_96 : decode cX9_init 96 = .ok (.aload_n 0, 1) := by decide +kernel
theorem dX9_init_97 : decode cX9_init 97 = .ok (.iconst 1, 1) := by decide +kernel
theorem dX9_init_98 : decode cX9_init 98 = .ok (.putfield 47, 3) := by decide +kernel
theorem dX9_init_101 : decode cX9_init 101 = .ok (.aload_n 0, 1) := by decide +kernel
theorem dX9_init_102 : decode cX9_init 102 = .ok (.iconst 3, 1) := by decide +kernel
theorem dX9_init_103 : decode cX9_init 103 = .ok (.iconst 3, 1) := by decide +kernel
theorem dX9_init_104 : decode cX9_init 104 = .ok (.invokevirtual 51, 3) := by decide +kernel
theorem dX9_init_107 : decode cX9_init 107 = .ok (.return_, 1) := by decide +kernel
theorem dX9_in_0 : decode cX9_in 0 = .ok (.lload_n 0, 1) := by decide +kernel
theorem dX9_in_1 : decode cX9_in 1 = .ok (.lload_n 2, 1) := by decide +kernel
theorem dX9_in_2 : decode cX9_in 2 = .ok (.lcmp, 1) := by decide +kernel
theorem dX9_in_3 : decode cX9_in 3 = .ok (.ifCond .lt 14, 3) := by decide +kernel
theorem dX9_in_6 : decode cX9_in 6 = .ok (.lload_n 0, 1) := by decide +kernel
theorem dX9_in_7 : decode cX9_in 7 = .ok (.lload 4, 2) := by decide +kernel
theorem dX9_in_9 : decode cX9_in 9 = .ok (.lcmp, 1) := by decide +kernel
theorem dX9_in_10 : decode cX9_in 10 = .ok (.ifCond .gt 7, 3) := by decide +kernel
theorem dX9_in_13 : decode cX9_in 13 = .ok (.iconst 1, 1) := by decide +kernel
theorem dX9_in_14 : decode cX9_in 14 = .ok (.goto 4, 3) := by decide +kernel
theorem dX9_in_17 : decode cX9_in 17 = .ok (.iconst 0, 1) := by decide +kernel
theorem dX9_in_18 : decode cX9_in 18 = .ok (.ireturn, 1) := by decide +kernel
theorem dX9_ones_0 : decode cX9_ones 0 = .ok (.iconst 0, 1) := by decide +kernel
theorem dX9_ones_1 : decode cX9_ones 1 = .ok (.istore_n 1, 1) := by decide +kernel
theorem dX9_ones_2 : decode cX9_ones 2 = .ok (.iload_n 0, 1) := by decide +kernel
theorem dX9_ones_3 : decode cX9_ones 3 = .ok (.istore_n 2, 1) := by decide +kernel
theorem dX9_ones_4 : decode cX9_ones 4 = .ok (.iload_n 2, 1) := by decide +kernel
theorem dX9_ones_5 : decode cX9_ones 5 = .ok (.ifCond .eq 15, 3) := by decide +kernel
theorem dX9_ones_8 : decode cX9_ones 8 = .ok (.iinc 1 1, 3) := by decide +kernel
theorem dX9_ones_11 : decode cX9_ones 11 = .ok (.iload_n 2, 1) := by decide +kernel
theorem dX9_ones_12 : decode cX9_ones 12 = .ok (.iload_n 2, 1) := by decide +kernel
theorem dX9_ones_13 : decode cX9_ones 13 = .ok (.iconst 1, 1) := by decide +kernel
theorem dX9_ones_14 : decode cX9_ones 14 = .ok (.isub, 1) := by decide +kernel
theorem dX9_ones_15 : decode cX9_ones 15 = .ok (.iand, 1) := by decide +kernel
theorem dX9_ones_16 : decode cX9_ones 16 = .ok (.istore_n 2, 1) := by decide +kernel
theorem dX9_ones_17 : decode cX9_ones 17 = .ok (.goto (-13), 3) := by decide +kernel
theorem dX9_ones_20 : decode cX9_ones 20 = .ok (.iload_n 1, 1) := by decide +kernel
theorem dX9_ones_21 : decode cX9_ones 21 = .ok (.ireturn, 1) := by decide +kernel
theorem dX9_lay_0 : decode cX9_lay 0 = .ok (.aload_n 0, 1) := by decide +kernel
theorem dX9_lay_1 : decode cX9_lay 1 = .ok (.iload_n 1, 1) := by decide +kernel
theorem dX9_lay_2 : decode cX9_lay 2 = .ok (.putfield 55, 3) := by decide +kernel
theorem dX9_lay_5 : decode cX9_lay 5 = .ok (.aload_n 0, 1) := by decide +kernel
theorem dX9_lay_6 : decode cX9_lay 6 = .ok (.iload_n 2, 1) := by decide +kernel
theorem dX9_lay_7 : decode cX9_lay 7 = .ok (.putfield 58, 3) := by decide +kernel
theorem dX9_lay_10 : decode cX9_lay 10 = .ok (.iconst 0, 1) := by decide +kernel
theorem dX9_lay_11 : decode cX9_lay 11 = .ok (.istore_n 3, 1) := by decide +kernel
theorem dX9_lay_12 : decode cX9_lay 12 = .ok (.iload_n 3, 1) := by decide +kernel
theorem dX9_lay_13 : decode cX9_lay 13 = .ok (.bipush 16, 2) := by decide +kernel
theorem dX9_lay_15 : decode cX9_lay 15 = .ok (.if_icmp .ge 17, 3) := by decide +kernel
theorem dX9_lay_18 : decode cX9_lay 18 = .ok (.aload_n 0, 1) := by decide +kernel
theorem dX9_lay_19 : decode cX9_lay 19 = .ok (.getfield 7, 3) := by decide +kernel
theorem dX9_lay_22 : decode cX9_lay 22 = .ok (.iload_n 3, 1) := by decide +kernel
theorem dX9_lay_23 : decode cX9_lay 23 = .ok (.bipush 46, 2) := by decide +kernel
theorem dX9_lay_25 : decode cX9_lay 25 = .ok (.iastore, 1) := by decide +kernel
theorem dX9_lay_26 : decode cX9_lay 26 = .ok (.iinc 3 1, 3) := by decide +kernel
theorem dX9_lay_29 : decode cX9_lay 29 = .ok (.goto (-17), 3) := by decide +kernel
theorem dX9_lay_32 : decode cX9_lay 32 = .ok (.aload_n 0, 1) := by decide +kernel
theorem dX9_lay_33 : decode cX9_lay 33 = .ok (.iconst 0, 1) := by decide +kernel
theorem dX9_lay_34 : decode cX9_lay 34 = .ok (.putfield 61, 3) := by decide +kernel
theorem dX9_lay_37 : decode cX9_lay 37 = .ok (.aload_n 0, 1) := by decide +kernel
theorem dX9_lay_38 : decode cX9_lay 38 = .ok (.iload_n 1, 1) := by decide +kernel
theorem dX9_lay_39 : decode cX9_lay 39 = .ok (.iload_n 2, 1) := by decide +kernel
theorem dX9_lay_40 : decode cX9_lay 40 = .ok (.imul, 1) := by decide +kernel
theorem dX9_lay_41 : decode cX9_lay 41 = .ok (.iconst 1, 1) := by decide +kernel
theorem dX9_lay_42 : decode cX9_lay 42 = .ok (.isub, 1) := by decide +kernel
theorem dX9_lay_43 : decode cX9_lay 43 = .ok (.putfield 64, 3) := by decide +kernel
theorem dX9_lay_46 : decode cX9_lay 46 = .ok (.aload_n 0, 1) := by decide +kernel
theorem dX9_lay_47 : decode cX9_lay 47 = .ok (.iconst 0, 1) := by decide +kernel
theorem dX9_lay_48 : decode cX9_lay 48 = .ok (.putfield 67, 3) := by decide +kernel
theorem dX9_lay_51 : decode cX9_lay 51 = .ok (.return_, 1) := by decide +kernel
theorem dX9_cells_0 : decode cX9_cells 0 = .ok (.aload_n 0, 1) := by decide +kernel
theorem dX9_cells_1 : decode cX9_cells 1 = .ok (.getfield 55, 3) := by decide +kernel
theorem dX9_cells_4 : decode cX9_cells 4 = .ok (.aload_n 0, 1) := by decide +kernel
theorem dX9_cells_5 : decode cX9_cells 5 = .ok (.getfield 58, 3) := by decide +kernel
theorem dX9_cells_8 : decode cX9_cells 8 = .ok (.imul, 1) := by decide +kernel
theorem dX9_cells_9 : decode cX9_cells 9 = .ok (.ireturn, 1) := by decide +kernel
set_option maxRecDepth 20000 in
theorem ggX9_isCell_X9_cells : GoodIn wsX9_isCell wsX9_cells := goodIn_r _ [5, 6, 7, 11, 12, 13, 14, 15, 16, 17, 18, 19, 20, 21, 22, 23, 24, 25, 26, 27, 28, 29, 30, 31, 32, 33, 34, 35, 36, 37, 38, 39, 40, 41, 42] (by decide +kernel) (by decide +kernel)
set_option maxRecDepth 20000 in
theorem gX9_isCell_X9_cells : GoodIn wsX9_isCell (wsV RX9 70 RX9 yX9_cells wsX9_cells) := goodIn_app (goodIn_of _ (by decide +kernel)) ggX9_isCell_X9_cells
set_option maxRecDepth 20000 in
theorem ggX9_isCell_X9_in : GoodIn wsX9_isCell wsX9_in := goodIn_r _ [10] (by decide +kernel) (by decide +kernel)
set_option maxRecDepth 20000 in
theorem gX9_isCell_X9_in : GoodIn wsX9_isCell (va_wsS RX9 74 yX9_in wsX9_in) := goodIn_app (goodIn_of _ (by decide +kernel)) ggX9_isCell_X9_in
theorem dX9_isCell_0 : decode cX9_isCell 0 = .ok (.iload_n 1, 1) := by decide +kernel
theorem dX9_isCell_1 : decode cX9_isCell 1 = .ok (.i2l, 1) := by decide +kernel
theorem dX9_isCell_2 : decode cX9_isCell 2 = .ok (.lconst 0, 1) := by decide +kernel
theorem dX9_isCell_3 : decode cX9_isCell 3 = .ok (.aload_n 0, 1) := by decide +kernel
theorem dX9_isCell_4 : decode cX9_isCell 4 = .ok (.invokevirtual 70, 3) := by decide +kernel
theorem dX9_isCell_7 : decode cX9_isCell 7 = .ok (.iconst 1, 1) := by decide +kernel
theorem dX9_isCell_8 : decode cX9_isCell 8 = .ok (.isub, 1) := by decide +kernel
theorem dX9_isCell_9 : decode cX9_isCell 9 = .ok (.i2l, 1) := by decide +kernel
theorem dX9_isCell_10 : decode cX9_isCell 10 = .ok (.invokestatic 74, 3) := by decide +kernel
theorem dX9_isCell_13 : decode cX9_isCell 13 = .ok (.ireturn, 1) := by decide +kernel
theorem dX9_isWall_0 : decode cX9_isWall 0 = .ok (.aload_n 0, 1) := by decide +kernel
theorem dX9_isWall_1 : decode cX9_isWall 1 = .ok (.getfield 7, 3) := by decide +kernel
theorem dX9_isWall_4 : decode cX9_isWall 4 = .ok (.iload_n 1, 1) := by decide +kernel
theorem dX9_isWall_5 : decode cX9_isWall 5 = .ok (.iaload, 1) := by decide +kernel
theorem dX9_isWall_6 : decode cX9_isWall 6 = .ok (.bipush 35, 2) := by decide +kernel
theorem dX9_isWall_8 : decode cX9_isWall 8 = .ok (.if_icmp .ne 7, 3) := by decide +kernel
theorem dX9_isWall_11 : decode cX9_isWall 11 = .ok (.iconst 1, 1) := by decide +kernel
theorem dX9_isWall_12 : decode cX9_isWall 12 = .ok (.goto 4, 3) := by decide +kernel
theorem dX9_isWall_15 : decode cX9_isWall 15 = .ok (.iconst 0, 1) := by decide +kernel
theorem dX9_isWall_16 : decode cX9_isWall 16 = .ok (.ireturn, 1) := by decide +kernel
set_option maxRecDepth 20000 in
theorem ggX9_house_X9_in : GoodIn wsX9_house wsX9_in := goodIn_r _ [5] (by decide +kernel) (by decide +kernel)
set_option maxRecDepth 20000 in
theorem gX9_house_X9_in : GoodIn wsX9_house (va_wsS RX9 74 yX9_in wsX9_in) := goodIn_app (goodIn_of _ (by decide +kernel)) ggX9_house_X9_in
set_option maxRecDepth 20000 in
theorem ggX9_house_X9_lay : GoodIn wsX9_house wsX9_lay := goodIn_r _ [9, 10, 11, 12, 13, 14, 15, 20, 21, 22, 23, 24, 25, 26, 27, 28, 29, 30, 31, 32, 33, 34, 35, 36, 37, 38, 39, 40, 41, 42, 43, 44, 45, 46, 47, 48, 49, 50, 51] (by decide +kernel) (by decide +kernel)
set_option maxRecDepth 20000 in
theorem gX9_house_X9_lay : GoodIn wsX9_house (wsV RX9 51 RX9 yX9_lay wsX9_lay) := goodIn_app (goodIn_of _ (by decide +kernel)) ggX9_house_X9_lay
set_option maxRecDepth 20000 in
theorem ggX9_house_X9_cells : GoodIn wsX9_house wsX9_cells := goodIn_r _ [19, 10, 11, 20, 21, 22, 23, 24, 25, 26, 27, 28, 29, 30, 31, 32, 33, 34, 35, 36, 37, 38, 39, 40, 41, 42, 43, 44, 45, 46, 47, 48, 49, 50, 51] (by decide +kernel) (by decide +kernel)
set_option maxRecDepth 20000 in
theorem gX9_house_X9_cells : GoodIn wsX9_house (wsV RX9 70 RX9 yX9_cells wsX9_cells) := goodIn_app (goodIn_of _ (by decide +kernel)) ggX9_house_X9_cells
theorem dX9_house_0 : decode cX9_house 0 = .ok (.iload_n 1, 1) := by decide +kernel
theorem dX9_house_1 : decode cX9_house 1 = .ok (.i2l, 1) := by decide +kernel
theorem dX9_house_2 : decode cX9_house 2 = .ok (.lconst 1, 1) := by decide +kernel
theorem dX9_house_3 : decode cX9_house 3 = .ok (.ldc2_w 78, 3) := by decide +kernel
theorem dX9_house_6 : decode cX9_house 6 = .ok (.invokestatic 74, 3) := by decide +kernel
theorem dX9_house_9 : decode cX9_house 9 = .ok (.ifCond .eq 15, 3) := by decide +kernel
theorem dX9_house_12 : decode cX9_house 12 = .ok (.iload_n 2, 1) := by decide +kernel
theorem dX9_house_13 : decode cX9_house 13 = .ok (.i2l, 1) := by decide +kernel
theorem dX9_house_14 : decode cX9_house 14 = .ok (.lconst 1, 1) := by decide +kernel
theorem dX9_house_15 : decode cX9_house 15 = .ok (.ldc2_w 78, 3) := by decide +kernel
theorem dX9_house_18 : decode cX9_house 18 = .ok (.invokestatic 74, 3) := by decide +kernel
theorem dX9_house_21 : decode cX9_house 21 = .ok (.ifCond .ne 6, 3) := by decide +kernel
theorem dX9_house_24 : decode cX9_house 24 = .ok (.bipush (-2), 2) := by decide +kernel
theorem dX9_house_26 : decode cX9_house 26 = .ok (.ireturn, 1) := by decide +kernel
theorem dX9_house_27 : decode cX9_house 27 = .ok (.aload_n 0, 1) := by decide +kernel
theorem dX9_house_28 : decode cX9_house 28 = .ok (.iload_n 1, 1) := by decide +kernel
theorem dX9_house_29 : decode cX9_house 29 = .ok (.iload_n 2, 1) := by decide +kernel
theorem dX9_house_30 : decode cX9_house 30 = .ok (.invokevirtual 51, 3) := by decide +kernel
theorem dX9_house_33 : decode cX9_house 33 = .ok (.aload_n 0, 1) := by decide +kernel
theorem dX9_house_34 : decode cX9_house 34 = .ok (.invokevirtual 70, 3) := by decide +kernel
theorem dX9_house_37 : decode cX9_house 37 = .ok (.ireturn, 1) := by decide +kernel
set_option maxRecDepth 20000 in
theorem ggX9_say_X9_in : GoodIn wsX9_say wsX9_in := goodIn_r _ [8] (by decide +kernel) (by decide +kernel)
set_option maxRecDepth 20000 in
theorem gX9_say_X9_in : GoodIn wsX9_say (va_wsS RX9 74 yX9_in wsX9_in) := goodIn_app (goodIn_of _ (by decide +kernel)) ggX9_say_X9_in
theorem dX9_say_0 : decode cX9_say 0 = .ok (.iload_n 1, 1) := by decide +kernel
theorem dX9_say_1 : decode cX9_say 1 = .ok (.i2l, 1) := by decide +kernel
theorem dX9_say_2 : decode cX9_say 2 = .ok (.ldc2_w 80, 3) := by decide +kernel
theorem dX9_say_5 : decode cX9_say 5 = .ok (.ldc2_w 82, 3) := by decide +kernel
theorem dX9_say_8 : decode cX9_say 8 = .ok (.invokestatic 74, 3) := by decide +kernel
theorem dX9_say_11 : decode cX9_say 11 = .ok (.ifCond .ne 6, 3) := by decide +kernel
theorem dX9_say_14 : decode cX9_say 14 = .ok (.bipush (-2), 2) := by decide +kernel
theorem dX9_say_16 : decode cX9_say 16 = .ok (.ireturn, 1) := by decide +kernel
theorem dX9_say_17 : decode cX9_say 17 = .ok (.aload_n 0, 1) := by decide +kernel
theorem dX9_say_18 : decode cX9_say 18 = .ok (.getfield 84, 3) := by decide +kernel
theorem dX9_say_21 : decode cX9_say 21 = .ok (.bipush 40, 2) := by decide +kernel
theorem dX9_say_23 : decode cX9_say 23 = .ok (.if_icmp .ne 6, 3) := by decide +kernel
theorem dX9_say_26 : decode cX9_say 26 = .ok (.bipush (-4), 2) := by decide +kernel
theorem dX9_say_28 : decode cX9_say 28 = .ok (.ireturn, 1) := by decide +kernel
theorem dX9_say_29 : decode cX9_say 29 = .ok (.aload_n 0, 1) := by decide +kernel
theorem dX9_say_30 : decode cX9_say 30 = .ok (.getfield 22, 3) := by decide +kernel
theorem dX9_say_33 : decode cX9_say 33 = .ok (.aload_n 0, 1) := by decide +kernel
theorem dX9_say_34 : decode cX9_say 34 = .ok (.getfield 84, 3) := by decide +kernel
theorem dX9_say_37 : decode cX9_say 37 = .ok (.iload_n 1, 1) := by decide +kernel
theorem dX9_say_38 : decode cX9_say 38 = .ok (.iastore, 1) := by decide +kernel
theorem dX9_say_39 : decode cX9_say 39 = .ok (.aload_n 0, 1) := by decide +kernel
theorem dX9_say_40 : decode cX9_say 40 = .ok (.dup, 1) := by decide +kernel
theorem dX9_say_41 : decode cX9_say 41 = .ok (.getfield 84, 3) := by decide +kernel
theorem dX9_say_44 : decode cX9_say 44 = .ok (.iconst 1, 1) := by decide +kernel
theorem dX9_say_45 : decode cX9_say 45 = .ok (.iadd, 1) := by decide +kernel
theorem dX9_say_46 : decode cX9_say 46 = .ok (.putfield 84, 3) := by decide +kernel
theorem dX9_say_49 : decode cX9_say 49 = .ok (.aload_n 0, 1) := by decide +kernel
theorem dX9_say_50 : decode cX9_say 50 = .ok (.getfield 84, 3) := by decide +kernel
theorem dX9_say_53 : decode cX9_say 53 = .ok (.ireturn, 1) := by decide +kernel
theorem dX9_wipe_0 : decode cX9_wipe 0 = .ok (.aload_n 0, 1) := by decide +kernel
theorem dX9_wipe_1 : decode cX9_wipe 1 = .ok (.getfield 84, 3) := by decide +kernel
theorem dX9_wipe_4 : decode cX9_wipe 4 = .ok (.istore_n 1, 1) := by decide +kernel
theorem dX9_wipe_5 : decode cX9_wipe 5 = .ok (.aload_n 0, 1) := by decide +kernel
theorem dX9_wipe_6 : decode cX9_wipe 6 = .ok (.iconst 0, 1) := by decide +kernel
theorem dX9_wipe_7 : decode cX9_wipe 7 = .ok (.putfield 84, 3) := by decide +kernel
theorem dX9_wipe_10 : decode cX9_wipe 10 = .ok (.iload_n 1, 1) := by decide +kernel
theorem dX9_wipe_11 : decode cX9_wipe 11 = .ok (.ireturn, 1) := by decide +kernel
theorem dX9_isSort_0 : decode cX9_isSort 0 = .ok (.iload_n 0, 1) := by decide +kernel
theorem dX9_isSort_1 : decode cX9_isSort 1 = .ok (.bipush 46, 2) := by decide +kernel
theorem dX9_isSort_3 : decode cX9_isSort 3 = .ok (.if_icmp .eq 27, 3) := by decide +kernel
theorem dX9_isSort_6 : decode cX9_isSort 6 = .ok (.iload_n 0, 1) := by decide +kernel
theorem dX9_isSort_7 : decode cX9_isSort 7 = .ok (.bipush 103, 2) := by decide +kernel
theorem dX9_isSort_9 : decode cX9_isSort 9 = .ok (.if_icmp .eq 21, 3) := by decide +kernel
theorem dX9_isSort_12 : decode cX9_isSort 12 = .ok (.iload_n 0, 1) := by decide +kernel
theorem dX9_isSort_13 : decode cX9_isSort 13 = .ok (.bipush 99, 2) := by decide +kernel
theorem dX9_isSort_15 : decode cX9_isSort 15 = .ok (.if_icmp .eq 15, 3) := by decide +kernel
theorem dX9_isSort_18 : decode cX9_isSort 18 = .ok (.iload_n 0, 1) := by decide +kernel
theorem dX9_isSort_19 : decode cX9_isSort 19 = .ok (.bipush 100, 2) := by decide +kernel
theorem dX9_isSort_21 : decode cX9_isSort 21 = .ok (.if_icmp .eq 9, 3) := by decide +kernel
theorem dX9_isSort_24 : decode cX9_isSort 24 = .ok (.iload_n 0, 1) := by decide +kernel
theorem dX9_isSort_25 : decode cX9_isSort 25 = .ok (.bipush 35, 2) := by decide +kernel
theorem dX9_isSort_27 : decode cX9_isSort 27 = .ok (.if_icmp .ne 7, 3) := by decide +kernel
theorem dX9_isSort_30 : decode cX9_isSort 30 = .ok (.iconst 1, 1) := by decide +kernel
theorem dX9_isSort_31 : decode cX9_isSort 31 = .ok (.goto 4, 3) := by decide +kernel
theorem dX9_isSort_34 : decode cX9_isSort 34 = .ok (.iconst 0, 1) := by decide +kernel
theorem dX9_isSort_35 : decode cX9_isSort 35 = .ok (.ireturn, 1) := by decide +kernel
theorem dX9_isStep_0 : decode cX9_isStep 0 = .ok (.iload_n 0, 1) := by decide +kernel
theorem dX9_isStep_1 : decode cX9_isStep 1 = .ok (.bipush 110, 2) := by decide +kernel
theorem dX9_isStep_3 : decode cX9_isStep 3 = .ok (.if_icmp .eq 27, 3) := by decide +kernel
theorem dX9_isStep_6 : decode cX9_isStep 6 = .ok (.iload_n 0, 1) := by decide +kernel
theorem dX9_isStep_7 : decode cX9_isStep 7 = .ok (.bipush 101, 2) := by decide +kernel
theorem dX9_isStep_9 : decode cX9_isStep 9 = .ok (.if_icmp .eq 21, 3) := by decide +kernel
theorem dX9_isStep_12 : decode cX9_isStep 12 = .ok (.iload_n 0, 1) := by decide +kernel
theorem dX9_isStep_13 : decode cX9_isStep 13 = .ok (.bipush 115, 2) := by decide +kernel
theorem dX9_isStep_15 : decode cX9_isStep 15 = .ok (.if_icmp .eq 15, 3) := by decide +kernel
theorem dX9_isStep_18 : decode cX9_isStep 18 = .ok (.iload_n 0, 1) := by decide +kernel
theorem dX9_isStep_19 : decode cX9_isStep 19 = .ok (.bipush 119, 2) := by decide +kernel
theorem dX9_isStep_21 : decode cX9_isStep 21 = .ok (.if_icmp .eq 9, 3) := by decide +kernel
theorem dX9_isStep_24 : decode cX9_isStep 24 = .ok (.iload_n 0, 1) := by decide +kernel
theorem dX9_isStep_25 : decode cX9_isStep 25 = .ok (.bipush 45, 2) := by decide +kernel
theorem dX9_isStep_27 : decode cX9_isStep 27 = .ok (.if_icmp .ne 7, 3) := by decide +kernel
theorem dX9_isStep_30 : decode cX9_isStep 30 = .ok (.iconst 1, 1) := by decide +kernel
theorem dX9_isStep_31 : decode cX9_isStep 31 = .ok (.goto 4, 3) := by decide +kernel
theorem dX9_isStep_34 : decode cX9_isStep 34 = .ok (.iconst 0, 1) := by decide +kernel
theorem dX9_isStep_35 : decode cX9_isStep 35 = .ok (.ireturn, 1) := by decide +kernel
set_option maxRecDepth 20000 in
theorem ggX9_fault_X9_in : GoodIn wsX9_fault wsX9_in := goodIn_r _ [6] (by decide +kernel) (by decide +kernel)
set_option maxRecDepth 20000 in
theorem gX9_fault_X9_in : GoodIn wsX9_fault (va_wsS RX9 74 yX9_in wsX9_in) := goodIn_app (goodIn_of _ (by decide +kernel)) ggX9_fault_X9_in
set_option maxRecDepth 20000 in
theorem ggX9_fault_X9_cells : GoodIn wsX9_fault wsX9_cells := goodIn_r _ [10, 11, 12, 19, 20, 21, 22, 23, 24, 25, 26, 27, 28, 29, 30, 31, 32, 33, 34, 35, 36, 37, 38, 39, 40, 41, 42, 43, 44, 45, 46, 47, 48, 49, 50] (by decide +kernel) (by decide +kernel)
set_option maxRecDepth 20000 in
theorem gX9_fault_X9_cells : GoodIn wsX9_fault (wsV RX9 70 RX9 yX9_cells wsX9_cells) := goodIn_app (goodIn_of _ (by decide +kernel)) ggX9_fault_X9_cells
set_option maxRecDepth 20000 in
theorem ggX9_fault_X9_isSort : GoodIn wsX9_fault wsX9_isSort := goodIn_r _ [15] (by decide +kernel) (by decide +kernel)
set_option maxRecDepth 20000 in
theorem gX9_fault_X9_isSort : GoodIn wsX9_fault (va_wsS RX9 87 yX9_isSort wsX9_isSort) := goodIn_app (goodIn_of _ (by decide +kernel)) ggX9_fault_X9_isSort
set_option maxRecDepth 20000 in
theorem ggX9_fault_X9_isStep : GoodIn wsX9_fault wsX9_isStep := goodIn_r _ [18] (by decide +kernel) (by decide +kernel)
set_option maxRecDepth 20000 in
theorem gX9_fault_X9_isStep : GoodIn wsX9_fault (va_wsS RX9 91 yX9_isStep wsX9_isStep) := goodIn_app (goodIn_of _ (by decide +kernel)) ggX9_fault_X9_isStep
theorem dX9_fault_0 : decode cX9_fault 0 = .ok (.iload_n 1, 1) := by decide +kernel
theorem dX9_fault_1 : decode cX9_fault 1 = .ok (.i2l, 1) := by decide +kernel
theorem dX9_fault_2 : decode cX9_fault 2 = .ok (.lconst 0, 1) := by decide +kernel
theorem dX9_fault_3 : decode cX9_fault 3 = .ok (.lconst 1, 1) := by decide +kernel
theorem dX9_fault_4 : decode cX9_fault 4 = .ok (.invokestatic 74, 3) := by decide +kernel
theorem dX9_fault_7 : decode cX9_fault 7 = .ok (.ifCond .ne 6, 3) := by decide +kernel
theorem dX9_fault_10 : decode cX9_fault 10 = .ok (.bipush (-2), 2) := by decide +kernel
theorem dX9_fault_12 : decode cX9_fault 12 = .ok (.ireturn, 1) := by decide +kernel
theorem dX9_fault_13 : decode cX9_fault 13 = .ok (.iconst 0, 1) := by decide +kernel
theorem dX9_fault_14 : decode cX9_fault 14 = .ok (.istore_n 2, 1) := by decide +kernel
theorem dX9_fault_15 : decode cX9_fault 15 = .ok (.iload_n 2, 1) := by decide +kernel
theorem dX9_fault_16 : decode cX9_fault 16 = .ok (.aload_n 0, 1) := by decide +kernel
theorem dX9_fault_17 : decode cX9_fault 17 = .ok (.getfield 84, 3) := by decide +kernel
theorem dX9_fault_20 : decode cX9_fault 20 = .ok (.if_icmp .ge 57, 3) := by decide +kernel
theorem dX9_fault_23 : decode cX9_fault 23 = .ok (.iload_n 1, 1) := by decide +kernel
theorem dX9_fault_24 : decode cX9_fault 24 = .ok (.ifCond .ne 31, 3) := by decide +kernel
theorem dX9_fault_27 : decode cX9_fault 27 = .ok (.iload_n 2, 1) := by decide +kernel
theorem dX9_fault_28 : decode cX9_fault 28 = .ok (.aload_n 0, 1) := by decide +kernel
theorem dX9_fault_29 : decode cX9_fault 29 = .ok (.invokevirtual 70, 3) := by decide +kernel
theorem dX9_fault_32 : decode cX9_fault 32 = .ok (.if_icmp .ge 19, 3) := by decide +kernel
theorem dX9_fault_35 : decode cX9_fault 35 = .ok (.aload_n 0, 1) := by decide +kernel
theorem dX9_fault_36 : decode cX9_fault 36 = .ok (.getfield 22, 3) := by decide +kernel
theorem dX9_fault_39 : decode cX9_fault 39 = .ok (.iload_n 2, 1) := by decide +kernel
theorem dX9_fault_40 : decode cX9_fault 40 = .ok (.iaload, 1) := by decide +kernel
theorem dX9_fault_41 : decode cX9_fault 41 = .ok (.invokestatic 87, 3) := by decide +kernel
theorem dX9_fault_44 : decode cX9_fault 44 = .ok (.ifCond .eq 7, 3) := by decide +kernel
theorem dX9_fault_47 : decode cX9_fault 47 = .ok (.iconst 1, 1) := by decide +kernel
theorem dX9_fault_48 : decode cX9_fault 48 = .ok (.goto 16, 3) := by decide +kernel
theorem dX9_fault_51 : decode cX9_fault 51 = .ok (.iconst 0, 1) := by decide +kernel
theorem dX9_fault_52 : decode cX9_fault 52 = .ok (.goto 12, 3) := by decide +kernel
theorem dX9_fault_55 : decode cX9_fault 55 = .ok (.aload_n 0, 1) := by decide +kernel
theorem dX9_fault_56 : decode cX9_fault 56 = .ok (.getfield 22, 3) := by decide +kernel
theorem dX9_fault_59 : decode cX9_fault 59 = .ok (.iload_n 2, 1) := by decide +kernel
theorem dX9_fault_60 : decode cX9_fault 60 = .ok (.iaload, 1) := by decide +kernel
theorem dX9_fault_61 : decode cX9_fault 61 = .ok (.invokestatic 91, 3) := by decide +kernel
theorem dX9_fault_64 : decode cX9_fault 64 = .ok (.istore_n 3, 1) := by decide +kernel
theorem dX9_fault_65 : decode cX9_fault 65 = .ok (.iload_n 3, 1) := by decide +kernel
theorem dX9_fault_66 : decode cX9_fault 66 = .ok (.ifCond .ne 5, 3) := by decide +kernel
theorem dX9_fault_69 : decode cX9_fault 69 = .ok (.iload_n 2, 1) := by decide +kernel
theorem dX9_fault_70 : decode cX9_fault 70 = .ok (.ireturn, 1) := by decide +kernel
theorem dX9_fault_71 : decode cX9_fault 71 = .ok (.iinc 2 1, 3) := by decide +kernel
theorem dX9_fault_74 : decode cX9_fault 74 = .ok (.goto (-59), 3) := by decide +kernel
theorem dX9_fault_77 : decode cX9_fault 77 = .ok (.iload_n 1, 1) := by decide +kernel
theorem dX9_fault_78 : decode cX9_fault 78 = .ok (.ifCond .ne 21, 3) := by decide +kernel
theorem dX9_fault_81 : decode cX9_fault 81 = .ok (.aload_n 0, 1) := by decide +kernel
theorem dX9_fault_82 : decode cX9_fault 82 = .ok (.getfield 84, 3) := by decide +kernel
theorem dX9_fault_85 : decode cX9_fault 85 = .ok (.aload_n 0, 1) := by decide +kernel
theorem dX9_fault_86 : decode cX9_fault 86 = .ok (.invokevirtual 70, 3) := by decide +kernel
theorem dX9_fault_89 : decode cX9_fault 89 = .ok (.if_icmp .ge 10, 3) := by decide +kernel
theorem dX9_fault_92 : decode cX9_fault 92 = .ok (.aload_n 0, 1) := by decide +kernel
theorem dX9_fault_93 : decode cX9_fault 93 = .ok (.getfield 84, 3) := by decide +kernel
theorem dX9_fault_96 : decode cX9_fault 96 = .ok (.goto 5, 3) := by decide +kernel
theorem dX9_fault_99 : decode cX9_fault 99 = .ok (.bipush (-6), 2) := by decide +kernel
theorem dX9_fault_101 : decode cX9_fault 101 = .ok (.ireturn, 1) := by decide +kernel
set_option maxRecDepth 20000 in
theorem ggX9_build_X9_fault : GoodIn wsX9_build wsX9_fault := goodIn_r _ [11, 1, 2, 12, 13, 10, 14, 15, 16, 17, 18, 19, 20, 21, 22, 23, 24, 25, 26, 27, 28, 29, 30, 31, 32, 33, 34, 35, 36, 37, 38, 39, 40, 41, 42, 43, 44, 45, 46, 47, 48, 49, 50, 51, 52, 53, 54, 55, 56, 57, 58] (by decide +kernel) (by decide +kernel)
set_option maxRecDepth 20000 in
theorem gX9_build_X9_fault : GoodIn wsX9_build (wsV RX9 94 RX9 yX9_fault wsX9_fault) := goodIn_app (goodIn_of _ (by decide +kernel)) ggX9_build_X9_fault
theorem dX9_build_0 : decode cX9_build 0 = .ok (.aload_n 0, 1) := by decide +kernel
theorem dX9_build_1 : decode cX9_build 1 = .ok (.iconst 0, 1) := by decide +kernel
theorem dX9_build_2 : decode cX9_build 2 = .ok (.invokevirtual 94, 3) := by decide +kernel
theorem dX9_build_5 : decode cX9_build 5 = .ok (.ifCond .lt 6, 3) := by decide +kernel
theorem dX9_build_8 : decode cX9_build 8 = .ok (.bipush (-5), 2) := by decide +kernel
theorem dX9_build_10 : decode cX9_build 10 = .ok (.ireturn, 1) := by decide +kernel
theorem dX9_build_11 : decode cX9_build 11 = .ok (.iconst 0, 1) := by decide +kernel
theorem dX9_build_12 : decode cX9_build 12 = .ok (.istore_n 1, 1) := by decide +kernel
theorem dX9_build_13 : decode cX9_build 13 = .ok (.bipush (-6), 2) := by decide +kernel
theorem dX9_build_15 : decode cX9_build 15 = .ok (.istore_n 2, 1) := by decide +kernel
theorem dX9_build_16 : decode cX9_build 16 = .ok (.bipush (-6), 2) := by decide +kernel
theorem dX9_build_18 : decode cX9_build 18 = .ok (.istore_n 3, 1) := by decide +kernel
theorem dX9_build_19 : decode cX9_build 19 = .ok (.iconst 0, 1) := by decide +kernel
theorem dX9_build_20 : decode cX9_build 20 = .ok (.istore 4, 2) := by decide +kernel
theorem dX9_build_22 : decode cX9_build 22 = .ok (.iload 4, 2) := by decide +kernel
theorem dX9_build_24 : decode cX9_build 24 = .ok (.aload_n 0, 1) := by decide +kernel
theorem dX9_build_25 : decode cX9_build 25 = .ok (.getfield 84, 3) := by decide +kernel
theorem dX9_build_28 : decode cX9_build 28 = .ok (.if_icmp .ge 38, 3) := by decide +kernel
theorem dX9_build_31 : decode cX9_build 31 = .ok (.aload_n 0, 1) := by decide +kernel
theorem dX9_build_32 : decode cX9_build 32 = .ok (.getfield 22, 3) := by decide +kernel
theorem dX9_build_35 : decode cX9_build 35 = .ok (.iload 4, 2) := by decide +kernel
theorem dX9_build_37 : decode cX9_build 37 = .ok (.iaload, 1) := by decide +kernel
theorem dX9_build_38 : decode cX9_build 38 = .ok (.bipush 35, 2) := by decide +kernel
theorem dX9_build_40 : decode cX9_build 40 = .ok (.if_icmp .eq 20, 3) := by decide +kernel
theorem dX9_build_43 : decode cX9_build 43 = .ok (.iinc 1 1, 3) := by decide +kernel
theorem dX9_build_46 : decode cX9_build 46 = .ok (.iload_n 2, 1) := by decide +kernel
theorem dX9_build_47 : decode cX9_build 47 = .ok (.ifCond .ge 8, 3) := by decide +kernel
theorem dX9_build_50 : decode cX9_build 50 = .ok (.iload 4, 2) := by decide +kernel
theorem dX9_build_52 : decode cX9_build 52 = .ok (.goto 4, 3) := by decide +kernel
theorem dX9_build_55 : decode cX9_build 55 = .ok (.iload_n 2, 1) := by decide +kernel
theorem dX9_build_56 : decode cX9_build 56 = .ok (.istore_n 2, 1) := by decide +kernel
theorem dX9_build_57 : decode cX9_build 57 = .ok (.iload 4, 2) := by decide +kernel
theorem dX9_build_59 : decode cX9_build 59 = .ok (.istore_n 3, 1) := by decide +kernel
theorem dX9_build_60 : decode cX9_build 60 = .ok (.iinc 4 1, 3) := by decide +kernel
theorem dX9_build_63 : decode cX9_build 63 = .ok (.goto (-41), 3) := by decide +kernel
theorem dX9_build_66 : decode cX9_build 66 = .ok (.iload_n 1, 1) := by decide +kernel
theorem dX9_build_67 : decode cX9_build 67 = .ok (.ifCond .ne 6, 3) := by decide +kernel
theorem dX9_build_70 : decode cX9_build 70 = .ok (.bipush (-3), 2) := by decide +kernel
theorem dX9_build_72 : decode cX9_build 72 = .ok (.ireturn, 1) := by decide +kernel
theorem dX9_build_73 : decode cX9_build 73 = .ok (.iconst 0, 1) := by decide +kernel
theorem dX9_build_74 : decode cX9_build 74 = .ok (.istore 4, 2) := by decide +kernel
theorem dX9_build_76 : decode cX9_build 76 = .ok (.iload 4, 2) := by decide +kernel
theorem dX9_build_78 : decode cX9_build 78 = .ok (.aload_n 0, 1) := by decide +kernel
theorem dX9_build_79 : decode cX9_build 79 = .ok (.getfield 84, 3) := by decide +kernel
theorem dX9_build_82 : decode cX9_build 82 = .ok (.if_icmp .ge 23, 3) := by decide +kernel
theorem dX9_build_85 : decode cX9_build 85 = .ok (.aload_n 0, 1) := by decide +kernel
theorem dX9_build_86 : decode cX9_build 86 = .ok (.getfield 7, 3) := by decide +kernel
theorem dX9_build_89 : decode cX9_build 89 = .ok (.iload 4, 2) := by decide +kernel
theorem dX9_build_91 : decode cX9_build 91 = .ok (.aload_n 0, 1) := by decide +kernel
theorem dX9_build_92 : decode cX9_build 92 = .ok (.getfield 22, 3) := by decide +kernel
theorem dX9_build_95 : decode cX9_build 95 = .ok (.iload 4, 2) := by decide +kernel
theorem dX9_build_97 : decode cX9_build 97 = .ok (.iaload, 1) := by decide +kernel
theorem dX9_build_98 : decode cX9_build 98 = .ok (.iastore, 1) := by decide +kernel
theorem dX9_build_99 : decode cX9_build 99 = .ok (.iinc 4 1, 3) := by decide +kernel
theorem dX9_build_102 : decode cX9_build 102 = .ok (.goto (-26), 3) := by decide +kernel
theorem dX9_build_105 : decode cX9_build 105 = .ok (.aload_n 0, 1) := by decide +kernel
theorem dX9_build_106 : decode cX9_build 106 = .ok (.iload_n 2, 1) := by decide +kernel
theorem dX9_build_107 : decode cX9_build 107 = .ok (.putfield 61, 3) := by decide +kernel
theorem dX9_build_110 : decode cX9_build 110 = .ok (.aload_n 0, 1) := by decide +kernel
theorem dX9_build_111 : decode cX9_build 111 = .ok (.iload_n 3, 1) := by decide +kernel
theorem dX9_build_112 : decode cX9_build 112 = .ok (.putfield 64, 3) := by decide +kernel
theorem dX9_build_115 : decode cX9_build 115 = .ok (.aload_n 0, 1) := by decide +kernel
theorem dX9_build_116 : decode cX9_build 116 = .ok (.iconst 0, 1) := by decide +kernel
theorem dX9_build_117 : decode cX9_build 117 = .ok (.putfield 67, 3) := by decide +kernel
theorem dX9_build_120 : decode cX9_build 120 = .ok (.aload_n 0, 1) := by decide +kernel
theorem dX9_build_121 : decode cX9_build 121 = .ok (.iconst 0, 1) := by decide +kernel
theorem dX9_build_122 : decode cX9_build 122 = .ok (.putfield 84, 3) := by decide +kernel
theorem dX9_build_125 : decode cX9_build 125 = .ok (.iload_n 1, 1) := by decide +kernel
theorem dX9_build_126 : decode cX9_build 126 = .ok (.ireturn, 1) := by decide +kernel
set_option maxRecDepth 20000 in
theorem ggX9_cell_X9_isCell : GoodIn wsX9_cell wsX9_isCell := goodIn_r _ [6, 7, 8, 9, 5, 10, 11, 12, 13, 14, 15, 16, 17, 18, 19, 20, 21, 22, 23, 24, 25, 26, 27, 28, 29, 30, 31, 32, 33, 34, 35, 36, 37, 38, 39, 40, 41, 42, 43, 44, 45, 46, 47] (by decide +kernel) (by decide +kernel)
set_option maxRecDepth 20000 in
theorem gX9_cell_X9_isCell : GoodIn wsX9_cell (wsV RX9 98 RX9 yX9_isCell wsX9_isCell) := goodIn_app (goodIn_of _ (by decide +kernel)) ggX9_cell_X9_isCell
theorem dX9_cell_0 : decode cX9_cell 0 = .ok (.aload_n 0, 1) := by decide +kernel
theorem dX9_cell_1 : decode cX9_cell 1 = .ok (.iload_n 1, 1) := by decide +kernel
theorem dX9_cell_2 : decode cX9_cell 2 = .ok (.invokevirtual 98, 3) := by decide +kernel
theorem dX9_cell_5 : decode cX9_cell 5 = .ok (.ifCond .eq 12, 3) := by decide +kernel
theorem dX9_cell_8 : decode cX9_cell 8 = .ok (.aload_n 0, 1) := by decide +kernel
theorem dX9_cell_9 : decode cX9_cell 9 = .ok (.getfield 7, 3) := by decide +kernel
theorem dX9_cell_12 : decode cX9_cell 12 = .ok (.iload_n 1, 1) := by decide +kernel
theorem dX9_cell_13 : decode cX9_cell 13 = .ok (.iaload, 1) := by decide +kernel
theorem dX9_cell_14 : decode cX9_cell 14 = .ok (.goto 4, 3) := by decide +kernel
theorem dX9_cell_17 : decode cX9_cell 17 = .ok (.iconst (-1), 1) := by decide +kernel
theorem dX9_cell_18 : decode cX9_cell 18 = .ok (.ireturn, 1) := by decide +kernel
set_option maxRecDepth 20000 in
theorem ggX9_place_X9_isCell : GoodIn wsX9_place wsX9_isCell := goodIn_r _ [7, 8, 9, 10, 6, 11, 12, 13, 14, 15, 16, 22, 23, 24, 25, 26, 27, 28, 29, 30, 31, 32, 33, 34, 35, 36, 37, 38, 39, 40, 41, 42, 43, 44, 45, 46, 47, 48, 49, 50, 51, 52, 53] (by decide +kernel) (by decide +kernel)
set_option maxRecDepth 20000 in
theorem gX9_place_X9_isCell : GoodIn wsX9_place (wsV RX9 98 RX9 yX9_isCell wsX9_isCell) := goodIn_app (goodIn_of _ (by decide +kernel)) ggX9_place_X9_isCell
set_option maxRecDepth 20000 in
theorem ggX9_place_X9_in : GoodIn wsX9_place wsX9_in := goodIn_r _ [16] (by decide +kernel) (by decide +kernel)
set_option maxRecDepth 20000 in
theorem gX9_place_X9_in : GoodIn wsX9_place (va_wsS RX9 74 yX9_in wsX9_in) := goodIn_app (goodIn_of _ (by decide +kernel)) ggX9_place_X9_in
set_option maxRecDepth 20000 in
theorem ggX9_place_X9_isWall : GoodIn wsX9_place wsX9_isWall := goodIn_r _ [20, 21, 22, 23, 24, 25, 26, 27, 28, 29, 30, 31, 32, 33, 34, 35, 36, 37, 38, 39, 40, 41, 42, 43, 44, 45, 46, 47, 48, 49, 50, 51, 52, 53] (by decide +kernel) (by decide +kernel)
set_option maxRecDepth 20000 in
theorem gX9_place_X9_isWall : GoodIn wsX9_place (wsV RX9 101 RX9 yX9_isWall wsX9_isWall) := goodIn_app (goodIn_of _ (by decide +kernel)) ggX9_place_X9_isWall
theorem dX9_place_0 : decode cX9_place 0 = .ok (.aload_n 0, 1) := by decide +kernel
theorem dX9_place_1 : decode cX9_place 1 = .ok (.iload_n 2, 1) := by decide +kernel
theorem dX9_place_2 : decode cX9_place 2 = .ok (.invokevirtual 98, 3) := by decide +kernel
theorem dX9_place_5 : decode cX9_place 5 = .ok (.ifCond .ne 5, 3) := by decide +kernel
theorem dX9_place_8 : decode cX9_place 8 = .ok (.iconst (-1), 1) := by decide +kernel
theorem dX9_place_9 : decode cX9_place 9 = .ok (.ireturn, 1) := by decide +kernel
theorem dX9_place_10 : decode cX9_place 10 = .ok (.iload_n 1, 1) := by decide +kernel
theorem dX9_place_11 : decode cX9_place 11 = .ok (.i2l, 1) := by decide +kernel
theorem dX9_place_12 : decode cX9_place 12 = .ok (.lconst 0, 1) := by decide +kernel
theorem dX9_place_13 : decode cX9_place 13 = .ok (.lconst 1, 1) := by decide +kernel
theorem dX9_place_14 : decode cX9_place 14 = .ok (.invokestatic 74, 3) := by decide +kernel
theorem dX9_place_17 : decode cX9_place 17 = .ok (.ifCond .ne 6, 3) := by decide +kernel
theorem dX9_place_20 : decode cX9_place 20 = .ok (.bipush (-2), 2) := by decide +kernel
theorem dX9_place_22 : decode cX9_place 22 = .ok (.ireturn, 1) := by decide +kernel
theorem dX9_place_23 : decode cX9_place 23 = .ok (.aload_n 0, 1) := by decide +kernel
theorem dX9_place_24 : decode cX9_place 24 = .ok (.iload_n 2, 1) := by decide +kernel
theorem dX9_place_25 : decode cX9_place 25 = .ok (.invokevirtual 101, 3) := by decide +kernel
theorem dX9_place_28 : decode cX9_place 28 = .ok (.ifCond .eq 6, 3) := by decide +kernel
theorem dX9_place_31 : decode cX9_place 31 = .ok (.bipush (-3), 2) := by decide +kernel
theorem dX9_place_33 : decode cX9_place 33 = .ok (.ireturn, 1) := by decide +kernel
theorem dX9_place_34 : decode cX9_place 34 = .ok (.iload_n 1, 1) := by decide +kernel
theorem dX9_place_35 : decode cX9_place 35 = .ok (.ifCond .ne 10, 3) := by decide +kernel
theorem dX9_place_38 : decode cX9_place 38 = .ok (.aload_n 0, 1) := by decide +kernel
theorem dX9_place_39 : decode cX9_place 39 = .ok (.getfield 61, 3) := by decide +kernel
theorem dX9_place_42 : decode cX9_place 42 = .ok (.goto 7, 3) := by decide +kernel
theorem dX9_place_45 : decode cX9_place 45 = .ok (.aload_n 0, 1) := by decide +kernel
theorem dX9_place_46 : decode cX9_place 46 = .ok (.getfield 64, 3) := by decide +kernel
theorem dX9_place_49 : decode cX9_place 49 = .ok (.istore_n 3, 1) := by decide +kernel
theorem dX9_place_50 : decode cX9_place 50 = .ok (.aload_n 0, 1) := by decide +kernel
theorem dX9_place_51 : decode cX9_place 51 = .ok (.iload_n 1, 1) := by decide +kernel
theorem dX9_place_52 : decode cX9_place 52 = .ok (.ifCond .ne 7, 3) := by decide +kernel
theorem dX9_place_55 : decode cX9_place 55 = .ok (.iload_n 2, 1) := by decide +kernel
theorem dX9_place_56 : decode cX9_place 56 = .ok (.goto 7, 3) := by decide +kernel
theorem dX9_place_59 : decode cX9_place 59 = .ok (.aload_n 0, 1) := by decide +kernel
theorem dX9_place_60 : decode cX9_place 60 = .ok (.getfield 61, 3) := by decide +kernel
theorem dX9_place_63 : decode cX9_place 63 = .ok (.putfield 61, 3) := by decide +kernel
theorem dX9_place_66 : decode cX9_place 66 = .ok (.aload_n 0, 1) := by decide +kernel
theorem dX9_place_67 : decode cX9_place 67 = .ok (.iload_n 1, 1) := by decide +kernel
theorem dX9_place_68 : decode cX9_place 68 = .ok (.iconst 1, 1) := by decide +kernel
theorem dX9_place_69 : decode cX9_place 69 = .ok (.if_icmp .ne 7, 3) := by decide +kernel
theorem dX9_place_72 : decode cX9_place 72 = .ok (.iload_n 2, 1) := by decide +kernel
theorem dX9_place_73 : decode cX9_place 73 = .ok (.goto 7, 3) := by decide +kernel
theorem dX9_place_76 : decode cX9_place 76 = .ok (.aload_n 0, 1) := by decide +kernel
theorem dX9_place_77 : decode cX9_place 77 = .ok (.getfield 64, 3) := by decide +kernel
theorem dX9_place_80 : decode cX9_place 80 = .ok (.putfield 64, 3) := by decide +kernel
theorem dX9_place_83 : decode cX9_place 83 = .ok (.iload_n 3, 1) := by decide +kernel
theorem dX9_place_84 : decode cX9_place 84 = .ok (.ireturn, 1) := by decide +kernel
set_option maxRecDepth 20000 in
theorem ggX9_watch_X9_isCell : GoodIn wsX9_watch wsX9_isCell := goodIn_r _ [10, 11, 12, 13, 9, 14, 15, 16, 17, 18, 19, 25, 26, 27, 28, 29, 30, 31, 32, 33, 34, 35, 36, 37, 38, 39, 40, 41, 42, 43, 44, 45, 46, 47, 48, 49, 50, 51, 52, 53, 54, 55, 56] (by decide +kernel) (by decide +kernel)
set_option maxRecDepth 20000 in
theorem gX9_watch_X9_isCell : GoodIn wsX9_watch (wsV RX9 98 RX9 yX9_isCell wsX9_isCell) := goodIn_app (goodIn_of _ (by decide +kernel)) ggX9_watch_X9_isCell
set_option maxRecDepth 20000 in
theorem ggX9_watch_X9_in : GoodIn wsX9_watch wsX9_in := goodIn_r _ [19] (by decide +kernel) (by decide +kernel)
set_option maxRecDepth 20000 in
theorem gX9_watch_X9_in : GoodIn wsX9_watch (va_wsS RX9 74 yX9_in wsX9_in) := goodIn_app (goodIn_of _ (by decide +kernel)) ggX9_watch_X9_in
set_option maxRecDepth 20000 in
theorem ggX9_watch_X9_isWall : GoodIn wsX9_watch wsX9_isWall := goodIn_r _ [23, 24, 25, 26, 27, 28, 29, 30, 31, 32, 33, 34, 35, 36, 37, 38, 39, 40, 41, 42, 43, 44, 45, 46, 47, 48, 49, 50, 51, 52, 53, 54, 55, 56] (by decide +kernel) (by decide +kernel)
set_option maxRecDepth 20000 in
theorem gX9_watch_X9_isWall : GoodIn wsX9_watch (wsV RX9 101 RX9 yX9_isWall wsX9_isWall) := goodIn_app (goodIn_of _ (by decide +kernel)) ggX9_watch_X9_isWall
theorem dX9_watch_0 : decode cX9_watch 0 = .ok (.aload_n 0, 1) := by decide +kernel
theorem dX9_watch_1 : decode cX9_watch 1 = .ok (.iload_n 1, 1) := by decide +kernel
theorem dX9_watch_2 : decode cX9_watch 2 = .ok (.invokevirtual 98, 3) := by decide +kernel
theorem dX9_watch_5 : decode cX9_watch 5 = .ok (.ifCond .ne 5, 3) := by decide +kernel
theorem dX9_watch_8 : decode cX9_watch 8 = .ok (.iconst (-1), 1) := by decide +kernel
theorem dX9_watch_9 : decode cX9_watch 9 = .ok (.ireturn, 1) := by decide +kernel
theorem dX9_watch_10 : decode cX9_watch 10 = .ok (.iload_n 2, 1) := by decide +kernel
theorem dX9_watch_11 : decode cX9_watch 11 = .ok (.i2l, 1) := by decide +kernel
theorem dX9_watch_12 : decode cX9_watch 12 = .ok (.lconst 0, 1) := by decide +kernel
theorem dX9_watch_13 : decode cX9_watch 13 = .ok (.ldc2_w 104, 3) := by decide +kernel
theorem dX9_watch_16 : decode cX9_watch 16 = .ok (.invokestatic 74, 3) := by decide +kernel
theorem dX9_watch_19 : decode cX9_watch 19 = .ok (.ifCond .ne 6, 3) := by decide +kernel
theorem dX9_watch_22 : decode cX9_watch 22 = .ok (.bipush (-2), 2) := by decide +kernel
theorem dX9_watch_24 : decode cX9_watch 24 = .ok (.ireturn, 1) := by decide +kernel
theorem dX9_watch_25 : decode cX9_watch 25 = .ok (.aload_n 0, 1) := by decide +kernel
theorem dX9_watch_26 : decode cX9_watch 26 = .ok (.iload_n 1, 1) := by decide +kernel
theorem dX9_watch_27 : decode cX9_watch 27 = .ok (.invokevirtual 101, 3) := by decide +kernel
theorem dX9_watch_30 : decode cX9_watch 30 = .ok (.ifCond .eq 6, 3) := by decide +kernel
theorem dX9_watch_33 : decode cX9_watch 33 = .ok (.bipush (-3), 2) := by decide +kernel
theorem dX9_watch_35 : decode cX9_watch 35 = .ok (.ireturn, 1) := by decide +kernel
theorem dX9_watch_36 : decode cX9_watch 36 = .ok (.aload_n 0, 1) := by decide +kernel
theorem dX9_watch_37 : decode cX9_watch 37 = .ok (.getfield 67, 3) := by decide +kernel
theorem dX9_watch_40 : decode cX9_watch 40 = .ok (.iconst 4, 1) := by decide +kernel
theorem dX9_watch_41 : decode cX9_watch 41 = .ok (.if_icmp .ne 6, 3) := by decide +kernel
theorem dX9_watch_44 : decode cX9_watch 44 = .ok (.bipush (-4), 2) := by decide +kernel
theorem dX9_watch_46 : decode cX9_watch 46 = .ok (.ireturn, 1) := by decide +kernel
theorem dX9_watch_47 : decode cX9_watch 47 = .ok (.aload_n 0, 1) := by decide +kernel
theorem dX9_watch_48 : decode cX9_watch 48 = .ok (.getfield 13, 3) := by decide +kernel
theorem dX9_watch_51 : decode cX9_watch 51 = .ok (.aload_n 0, 1) := by decide +kernel
theorem dX9_watch_52 : decode cX9_watch 52 = .ok (.getfield 67, 3) := by decide +kernel
theorem dX9_watch_55 : decode cX9_watch 55 = .ok (.iload_n 1, 1) := by decide +kernel
theorem dX9_watch_56 : decode cX9_watch 56 = .ok (.iastore, 1) := by decide +kernel
theorem dX9_watch_57 : decode cX9_watch 57 = .ok (.aload_n 0, 1) := by decide +kernel
theorem dX9_watch_58 : decode cX9_watch 58 = .ok (.getfield 16, 3) := by decide +kernel
theorem dX9_watch_61 : decode cX9_watch 61 = .ok (.aload_n 0, 1) := by decide +kernel
theorem dX9_watch_62 : decode cX9_watch 62 = .ok (.getfield 67, 3) := by decide +kernel
theorem dX9_watch_65 : decode cX9_watch 65 = .ok (.iload_n 2, 1) := by decide +kernel
theorem dX9_watch_66 : decode cX9_watch 66 = .ok (.iastore, 1) := by decide +kernel
theorem dX9_watch_67 : decode cX9_watch 67 = .ok (.aload_n 0, 1) := by decide +kernel
theorem dX9_watch_68 : decode cX9_watch 68 = .ok (.getfield 19, 3) := by decide +kernel
theorem dX9_watch_71 : decode cX9_watch 71 = .ok (.aload_n 0, 1) := by decide +kernel
theorem dX9_watch_72 : decode cX9_watch 72 = .ok (.getfield 67, 3) := by decide +kernel
theorem dX9_watch_75 : decode cX9_watch 75 = .ok (.iload_n 3, 1) := by decide +kernel
theorem dX9_watch_76 : decode cX9_watch 76 = .ok (.ifCond .eq 7, 3) := by decide +kernel
theorem dX9_watch_79 : decode cX9_watch 79 = .ok (.iconst 1, 1) := by decide +kernel
theorem dX9_watch_80 : decode cX9_watch 80 = .ok (.goto 4, 3) := by decide +kernel
theorem dX9_watch_83 : decode cX9_watch 83 = .ok (.iconst 0, 1) := by decide +kernel
theorem dX9_watch_84 : decode cX9_watch 84 = .ok (.iastore, 1) := by decide +kernel
theorem dX9_watch_85 : decode cX9_watch 85 = .ok (.aload_n 0, 1) := by decide +kernel
theorem dX9_watch_86 : decode cX9_watch 86 = .ok (.dup, 1) := by decide +kernel
theorem dX9_watch_87 : decode cX9_watch 87 = .ok (.getfield 67, 3) := by decide +kernel
theorem dX9_watch_90 : decode cX9_watch 90 = .ok (.iconst 1, 1) := by decide +kernel
theorem dX9_watch_91 : decode cX9_watch 91 = .ok (.iadd, 1) := by decide +kernel
theorem dX9_watch_92 : decode cX9_watch 92 = .ok (.putfield 67, 3) := by decide +kernel
theorem dX9_watch_95 : decode cX9_watch 95 = .ok (.aload_n 0, 1) := by decide +kernel
theorem dX9_watch_96 : decode cX9_watch 96 = .ok (.getfield 67, 3) := by decide +kernel
theorem dX9_watch_99 : decode cX9_watch 99 = .ok (.ireturn, 1) := by decide +kernel
theorem dX9_dismiss_0 : decode cX9_dismiss 0 = .ok (.aload_n 0, 1) := by decide +kernel
theorem dX9_dismiss_1 : decode cX9_dismiss 1 = .ok (.getfield 67, 3) := by decide +kernel
theorem dX9_dismiss_4 : decode cX9_dismiss 4 = .ok (.istore_n 1, 1) := by decide +kernel
theorem dX9_dismiss_5 : decode cX9_dismiss 5 = .ok (.aload_n 0, 1) := by decide +kernel
theorem dX9_dismiss_6 : decode cX9_dismiss 6 = .ok (.iconst 0, 1) := by decide +kernel
theorem dX9_dismiss_7 : decode cX9_dismiss 7 = .ok (.putfield 67, 3) := by decide +kernel
theorem dX9_dismiss_10 : decode cX9_dismiss 10 = .ok (.iload_n 1, 1) := by decide +kernel
theorem dX9_dismiss_11 : decode cX9_dismiss 11 = .ok (.ireturn, 1) := by decide +kernel
set_option maxRecDepth 20000 in
theorem ggX9_ears_X9_in : GoodIn wsX9_ears wsX9_in := goodIn_r _ [6] (by decide +kernel) (by decide +kernel)
set_option maxRecDepth 20000 in
theorem gX9_ears_X9_in : GoodIn wsX9_ears (va_wsS RX9 74 yX9_in wsX9_in) := goodIn_app (goodIn_of _ (by decide +kernel)) ggX9_ears_X9_in
theorem dX9_ears_0 : decode cX9_ears 0 = .ok (.iload_n 1, 1) := by decide +kernel
theorem dX9_ears_1 : decode cX9_ears 1 = .ok (.i2l, 1) := by decide +kernel
theorem dX9_ears_2 : decode cX9_ears 2 = .ok (.lconst 0, 1) := by decide +kernel
theorem dX9_ears_3 : decode cX9_ears 3 = .ok (.ldc2_w 106, 3) := by decide +kernel
theorem dX9_ears_6 : decode cX9_ears 6 = .ok (.invokestatic 74, 3) := by decide +kernel
theorem dX9_ears_9 : decode cX9_ears 9 = .ok (.ifCond .ne 6, 3) := by decide +kernel
theorem dX9_ears_12 : decode cX9_ears 12 = .ok (.bipush (-2), 2) := by decide +kernel
theorem dX9_ears_14 : decode cX9_ears 14 = .ok (.ireturn, 1) := by decide +kernel
theorem dX9_ears_15 : decode cX9_ears 15 = .ok (.aload_n 0, 1) := by decide +kernel
theorem dX9_ears_16 : decode cX9_ears 16 = .ok (.getfield 47, 3) := by decide +kernel
theorem dX9_ears_19 : decode cX9_ears 19 = .ok (.istore_n 2, 1) := by decide +kernel
theorem dX9_ears_20 : decode cX9_ears 20 = .ok (.aload_n 0, 1) := by decide +kernel
theorem dX9_ears_21 : decode cX9_ears 21 = .ok (.iload_n 1, 1) := by decide +kernel
theorem dX9_ears_22 : decode cX9_ears 22 = .ok (.putfield 47, 3) := by decide +kernel
theorem dX9_ears_25 : decode cX9_ears 25 = .ok (.iload_n 2, 1) := by decide +kernel
theorem dX9_ears_26 : decode cX9_ears 26 = .ok (.ireturn, 1) := by decide +kernel
set_option maxRecDepth 20000 in
theorem ggX9_beyond_X9_in : GoodIn wsX9_beyond wsX9_in := goodIn_r _ [6] (by decide +kernel) (by decide +kernel)
set_option maxRecDepth 20000 in
theorem gX9_beyond_X9_in : GoodIn wsX9_beyond (va_wsS RX9 74 yX9_in wsX9_in) := goodIn_app (goodIn_of _ (by decide +kernel)) ggX9_beyond_X9_in
set_option maxRecDepth 20000 in
theorem ggX9_beyond_X9_isWall : GoodIn wsX9_beyond wsX9_isWall := goodIn_r _ [10, 11, 12, 13, 14, 15, 16, 17, 18, 19, 20, 21, 22, 23, 24, 25, 26, 27, 28, 29, 30, 31, 32, 33, 34, 35, 36, 37, 38, 39, 40, 41, 42, 43] (by decide +kernel) (by decide +kernel)
set_option maxRecDepth 20000 in
theorem gX9_beyond_X9_isWall : GoodIn wsX9_beyond (wsV RX9 101 RX9 yX9_isWall wsX9_isWall) := goodIn_app (goodIn_of _ (by decide +kernel)) ggX9_beyond_X9_isWall
theorem dX9_beyond_0 : decode cX9_beyond 0 = .ok (.iload_n 1, 1) := by decide +kernel
theorem dX9_beyond_1 : decode cX9_beyond 1 = .ok (.aload_n 0, 1) := by decide +kernel
theorem dX9_beyond_2 : decode cX9_beyond 2 = .ok (.getfield 58, 3) := by decide +kernel
theorem dX9_beyond_5 : decode cX9_beyond 5 = .ok (.idiv, 1) := by decide +kernel
theorem dX9_beyond_6 : decode cX9_beyond 6 = .ok (.iload_n 2, 1) := by decide +kernel
theorem dX9_beyond_7 : decode cX9_beyond 7 = .ok (.ifCond .ne 7, 3) := by decide +kernel
theorem dX9_beyond_10 : decode cX9_beyond 10 = .ok (.iconst (-1), 1) := by decide +kernel
theorem dX9_beyond_11 : decode cX9_beyond 11 = .ok (.goto 13, 3) := by decide +kernel
theorem dX9_beyond_14 : decode cX9_beyond 14 = .ok (.iload_n 2, 1) := by decide +kernel
theorem dX9_beyond_15 : decode cX9_beyond 15 = .ok (.iconst 2, 1) := by decide +kernel
theorem dX9_beyond_16 : decode cX9_beyond 16 = .ok (.if_icmp .ne 7, 3) := by decide +kernel
theorem dX9_beyond_19 : decode cX9_beyond 19 = .ok (.iconst 1, 1) := by decide +kernel
theorem dX9_beyond_20 : decode cX9_beyond 20 = .ok (.goto 4, 3) := by decide +kernel
theorem dX9_beyond_23 : decode cX9_beyond 23 = .ok (.iconst 0, 1) := by decide +kernel
theorem dX9_beyond_24 : decode cX9_beyond 24 = .ok (.iadd, 1) := by decide +kernel
theorem dX9_beyond_25 : decode cX9_beyond 25 = .ok (.istore_n 3, 1) := by decide +kernel
theorem dX9_beyond_26 : decode cX9_beyond 26 = .ok (.iload_n 1, 1) := by decide +kernel
theorem dX9_beyond_27 : decode cX9_beyond 27 = .ok (.aload_n 0, 1) := by decide +kernel
theorem dX9_beyond_28 : decode cX9_beyond 28 = .ok (.getfield 58, 3) := by decide +kernel
theorem dX9_beyond_31 : decode cX9_beyond 31 = .ok (.irem, 1) := by decide +kernel
theorem dX9_beyond_32 : decode cX9_beyond 32 = .ok (.iload_n 2, 1) := by decide +kernel
theorem dX9_beyond_33 : decode cX9_beyond 33 = .ok (.iconst 1, 1) := by decide +kernel
theorem dX9_beyond_34 : decode cX9_beyond 34 = .ok (.if_icmp .ne 7, 3) := by decide +kernel
theorem dX9_beyond_37 : decode cX9_beyond 37 = .ok (.iconst 1, 1) := by decide +kernel
theorem dX9_beyond_38 : decode cX9_beyond 38 = .ok (.goto 13, 3) := by decide +kernel
theorem dX9_beyond_41 : decode cX9_beyond 41 = .ok (.iload_n 2, 1) := by decide +kernel
theorem dX9_beyond_42 : decode cX9_beyond 42 = .ok (.iconst 3, 1) := by decide +kernel
theorem dX9_beyond_43 : decode cX9_beyond 43 = .ok (.if_icmp .ne 7, 3) := by decide +kernel
theorem dX9_beyond_46 : decode cX9_beyond 46 = .ok (.iconst (-1), 1) := by decide +kernel
theorem dX9_beyond_47 : decode cX9_beyond 47 = .ok (.goto 4, 3) := by decide +kernel
theorem dX9_beyond_50 : decode cX9_beyond 50 = .ok (.iconst 0, 1) := by decide +kernel
theorem dX9_beyond_51 : decode cX9_beyond 51 = .ok (.iadd, 1) := by decide +kernel
theorem dX9_beyond_52 : decode cX9_beyond 52 = .ok (.istore 4, 2) := by decide +kernel
theorem dX9_beyond_54 : decode cX9_beyond 54 = .ok (.iload_n 3, 1) := by decide +kernel
theorem dX9_beyond_55 : decode cX9_beyond 55 = .ok (.i2l, 1) := by decide +kernel
theorem dX9_beyond_56 : decode cX9_beyond 56 = .ok (.lconst 0, 1) := by decide +kernel
theorem dX9_beyond_57 : decode cX9_beyond 57 = .ok (.aload_n 0, 1) := by decide +kernel
theorem dX9_beyond_58 : decode cX9_beyond 58 = .ok (.getfield 55, 3) := by decide +kernel
theorem dX9_beyond_61 : decode cX9_beyond 61 = .ok (.iconst 1, 1) := by decide +kernel
theorem dX9_beyond_62 : decode cX9_beyond 62 = .ok (.isub, 1) := by decide +kernel
theorem dX9_beyond_63 : decode cX9_beyond 63 = .ok (.i2l, 1) := by decide +kernel
theorem dX9_beyond_64 : decode cX9_beyond 64 = .ok (.invokestatic 74, 3) := by decide +kernel
theorem dX9_beyond_67 : decode cX9_beyond 67 = .ok (.ifCond .eq 24, 3) := by decide +kernel
theorem dX9_beyond_70 : decode cX9_beyond 70 = .ok (.iload 4, 2) := by decide +kernel
theorem dX9_beyond_72 : decode cX9_beyond 72 = .ok (.i2l, 1) := by decide +kernel
theorem dX9_beyond_73 : decode cX9_beyond 73 = .ok (.lconst 0, 1) := by decide +kernel
theorem dX9_beyond_74 : decode cX9_beyond 74 = .ok (.aload_n 0, 1) := by decide +kernel
theorem dX9_beyond_75 : decode cX9_beyond 75 = .ok (.getfield 58, 3) := by decide +kernel
theorem dX9_beyond_78 : decode cX9_beyond 78 = .ok (.iconst 1, 1) := by decide +kernel
theorem dX9_beyond_79 : decode cX9_beyond 79 = .ok (.isub, 1) := by decide +kernel
theorem dX9_beyond_80 : decode cX9_beyond 80 = .ok (.i2l, 1) := by decide +kernel
theorem dX9_beyond_81 : decode cX9_beyond 81 = .ok (.invokestatic 74, 3) := by decide +kernel
theorem dX9_beyond_84 : decode cX9_beyond 84 = .ok (.ifCond .eq 7, 3) := by decide +kernel
theorem dX9_beyond_87 : decode cX9_beyond 87 = .ok (.iconst 1, 1) := by decide +kernel
theorem dX9_beyond_88 : decode cX9_beyond 88 = .ok (.goto 4, 3) := by decide +kernel
theorem dX9_beyond_91 : decode cX9_beyond 91 = .ok (.iconst 0, 1) := by decide +kernel
theorem dX9_beyond_92 : decode cX9_beyond 92 = .ok (.istore 5, 2) := by decide +kernel
theorem dX9_beyond_94 : decode cX9_beyond 94 = .ok (.iload 5, 2) := by decide +kernel
theorem dX9_beyond_96 : decode cX9_beyond 96 = .ok (.ifCond .eq 31, 3) := by decide +kernel
theorem dX9_beyond_99 : decode cX9_beyond 99 = .ok (.aload_n 0, 1) := by decide +kernel
theorem dX9_beyond_100 : decode cX9_beyond 100 = .ok (.iload_n 3, 1) := by decide +kernel
theorem dX9_beyond_101 : decode cX9_beyond 101 = .ok (.aload_n 0, 1) := by decide +kernel
theorem dX9_beyond_102 : decode cX9_beyond 102 = .ok (.getfield 58, 3) := by decide +kernel
theorem dX9_beyond_105 : decode cX9_beyond 105 = .ok (.imul, 1) := by decide +kernel
theorem dX9_beyond_106 : decode cX9_beyond 106 = .ok (.iload 4, 2) := by decide +kernel
theorem dX9_beyond_108 : decode cX9_beyond 108 = .ok (.iadd, 1) := by decide +kernel
theorem dX9_beyond_109 : decode cX9_beyond 109 = .ok (.invokevirtual 101, 3) := by decide +kernel
theorem dX9_beyond_112 : decode cX9_beyond 112 = .ok (.ifCond .ne 15, 3) := by decide +kernel
theorem dX9_beyond_115 : decode cX9_beyond 115 = .ok (.iload_n 3, 1) := by decide +kernel
theorem dX9_beyond_116 : decode cX9_beyond 116 = .ok (.aload_n 0, 1) := by decide +kernel
theorem dX9_beyond_117 : decode cX9_beyond 117 = .ok (.getfield 58, 3) := by decide +kernel
theorem dX9_beyond_120 : decode cX9_beyond 120 = .ok (.imul, 1) := by decide +kernel
theorem dX9_beyond_121 : decode cX9_beyond 121 = .ok (.iload 4, 2) := by decide +kernel
theorem dX9_beyond_123 : decode cX9_beyond 123 = .ok (.iadd, 1) := by decide +kernel
theorem dX9_beyond_124 : decode cX9_beyond 124 = .ok (.goto 5, 3) := by decide +kernel
theorem dX9_beyond_127 : decode cX9_beyond 127 = .ok (.bipush (-6), 2) := by decide +kernel
theorem dX9_beyond_129 : decode cX9_beyond 129 = .ok (.ireturn, 1) := by decide +kernel
set_option maxRecDepth 20000 in
theorem ggX9_seenFrom_X9_beyond : GoodIn wsX9_seenFrom wsX9_beyond := goodIn_r _ [5, 6, 7, 8, 9, 4, 10, 11, 12, 13, 14, 15, 16, 17, 18, 19, 20, 21, 22, 23, 24, 25, 26, 27, 28, 29, 30, 31, 32, 33, 34, 35, 36, 37, 38, 39, 40, 41, 42, 43, 44, 45, 46, 47] (by decide +kernel) (by decide +kernel)
set_option maxRecDepth 20000 in
theorem gX9_seenFrom_X9_beyond : GoodIn wsX9_seenFrom (wsV RX9 108 RX9 yX9_beyond wsX9_beyond) := goodIn_app (goodIn_of _ (by decide +kernel)) ggX9_seenFrom_X9_beyond
theorem dX9_seenFrom_0 : decode cX9_seenFrom 0 = .ok (.iconst 0, 1) := by decide +kernel
theorem dX9_seenFrom_1 : decode cX9_seenFrom 1 = .ok (.istore_n 3, 1) := by decide +kernel
theorem dX9_seenFrom_2 : decode cX9_seenFrom 2 = .ok (.iload_n 1, 1) := by decide +kernel
theorem dX9_seenFrom_3 : decode cX9_seenFrom 3 = .ok (.istore 4, 2) := by decide +kernel
theorem dX9_seenFrom_5 : decode cX9_seenFrom 5 = .ok (.iload 4, 2) := by decide +kernel
theorem dX9_seenFrom_7 : decode cX9_seenFrom 7 = .ok (.ifCond .lt 22, 3) := by decide +kernel
theorem dX9_seenFrom_10 : decode cX9_seenFrom 10 = .ok (.iload_n 3, 1) := by decide +kernel
theorem dX9_seenFrom_11 : decode cX9_seenFrom 11 = .ok (.iconst 1, 1) := by decide +kernel
theorem dX9_seenFrom_12 : decode cX9_seenFrom 12 = .ok (.iload 4, 2) := by decide +kernel
theorem dX9_seenFrom_14 : decode cX9_seenFrom 14 = .ok (.ishl, 1) := by decide +kernel
theorem dX9_seenFrom_15 : decode cX9_seenFrom 15 = .ok (.ior, 1) := by decide +kernel
theorem dX9_seenFrom_16 : decode cX9_seenFrom 16 = .ok (.istore_n 3, 1) := by decide +kernel
theorem dX9_seenFrom_17 : decode cX9_seenFrom 17 = .ok (.aload_n 0, 1) := by decide +kernel
theorem dX9_seenFrom_18 : decode cX9_seenFrom 18 = .ok (.iload 4, 2) := by decide +kernel
theorem dX9_seenFrom_20 : decode cX9_seenFrom 20 = .ok (.iload_n 2, 1) := by decide +kernel
theorem dX9_seenFrom_21 : decode cX9_seenFrom 21 = .ok (.invokevirtual 108, 3) := by decide +kernel
theorem dX9_seenFrom_24 : decode cX9_seenFrom 24 = .ok (.istore 4, 2) := by decide +kernel
theorem dX9_seenFrom_26 : decode cX9_seenFrom 26 = .ok (.goto (-21), 3) := by decide +kernel
theorem dX9_seenFrom_29 : decode cX9_seenFrom 29 = .ok (.iload_n 3, 1) := by decide +kernel
theorem dX9_seenFrom_30 : decode cX9_seenFrom 30 = .ok (.ireturn, 1) := by decide +kernel
set_option maxRecDepth 20000 in
theorem ggX9_seenBy_X9_seenFrom : GoodIn wsX9_seenBy wsX9_seenFrom := goodIn_r _ [7, 8, 9, 10, 6, 11, 12, 13, 14, 15, 16, 17, 18, 19, 20, 21, 22, 23, 24, 25, 26, 27, 28, 29, 30, 31, 32, 33, 34, 35, 36, 37, 38, 39, 40, 41, 42, 43, 44, 45, 46, 47, 48, 49, 50, 51, 52, 53] (by decide +kernel) (by decide +kernel)
set_option maxRecDepth 20000 in
theorem gX9_seenBy_X9_seenFrom : GoodIn wsX9_seenBy (wsV RX9 112 RX9 yX9_seenFrom wsX9_seenFrom) := goodIn_app (goodIn_of _ (by decide +kernel)) ggX9_seenBy_X9_seenFrom
theorem dX9_seenBy_0 : decode cX9_seenBy 0 = .ok (.aload_n 0, 1) := by decide +kernel
theorem dX9_seenBy_1 : decode cX9_seenBy 1 = .ok (.aload_n 0, 1) := by decide +kernel
theorem dX9_seenBy_2 : decode cX9_seenBy 2 = .ok (.getfield 13, 3) := by decide +kernel
theorem dX9_seenBy_5 : decode cX9_seenBy 5 = .ok (.iload_n 1, 1) := by decide +kernel
theorem dX9_seenBy_6 : decode cX9_seenBy 6 = .ok (.iaload, 1) := by decide +kernel
theorem dX9_seenBy_7 : decode cX9_seenBy 7 = .ok (.aload_n 0, 1) := by decide +kernel
theorem dX9_seenBy_8 : decode cX9_seenBy 8 = .ok (.getfield 16, 3) := by decide +kernel
theorem dX9_seenBy_11 : decode cX9_seenBy 11 = .ok (.iload_n 1, 1) := by decide +kernel
theorem dX9_seenBy_12 : decode cX9_seenBy 12 = .ok (.iaload, 1) := by decide +kernel
theorem dX9_seenBy_13 : decode cX9_seenBy 13 = .ok (.invokevirtual 112, 3) := by decide +kernel
theorem dX9_seenBy_16 : decode cX9_seenBy 16 = .ok (.ireturn, 1) := by decide +kernel
theorem dX9_apart_0 : decode cX9_apart 0 = .ok (.iload_n 1, 1) := by decide +kernel
theorem dX9_apart_1 : decode cX9_apart 1 = .ok (.aload_n 0, 1) := by decide +kernel
theorem dX9_apart_2 : decode cX9_apart 2 = .ok (.getfield 58, 3) := by decide +kernel
theorem dX9_apart_5 : decode cX9_apart 5 = .ok (.idiv, 1) := by decide +kernel
theorem dX9_apart_6 : decode cX9_apart 6 = .ok (.iload_n 2, 1) := by decide +kernel
theorem dX9_apart_7 : decode cX9_apart 7 = .ok (.aload_n 0, 1) := by decide +kernel
theorem dX9_apart_8 : decode cX9_apart 8 = .ok (.getfield 58, 3) := by decide +kernel
theorem dX9_apart_11 : decode cX9_apart 11 = .ok (.idiv, 1) := by decide +kernel
theorem dX9_apart_12 : decode cX9_apart 12 = .ok (.isub, 1) := by decide +kernel
theorem dX9_apart_13 : decode cX9_apart 13 = .ok (.istore_n 3, 1) := by decide +kernel
theorem dX9_apart_14 : decode cX9_apart 14 = .ok (.iload_n 1, 1) := by decide +kernel
theorem dX9_apart_15 : decode cX9_apart 15 = .ok (.aload_n 0, 1) := by decide +kernel
theorem dX9_apart_16 : decode cX9_apart 16 = .ok (.getfield 58, 3) := by decide +kernel
theorem dX9_apart_19 : decode cX9_apart 19 = .ok (.irem, 1) := by decide +kernel
theorem dX9_apart_20 : decode cX9_apart 20 = .ok (.iload_n 2, 1) := by decide +kernel
theorem dX9_apart_21 : decode cX9_apart 21 = .ok (.aload_n 0, 1) := by decide +kernel
theorem dX9_apart_22 : decode cX9_apart 22 = .ok (.getfield 58, 3) := by decide +kernel
theorem dX9_apart_25 : decode cX9_apart 25 = .ok (.irem, 1) := by decide +kernel
theorem dX9_apart_26 : decode cX9_apart 26 = .ok (.isub, 1) := by decide +kernel
theorem dX9_apart_27 : decode cX9_apart 27 = .ok (.istore 4, 2) := by decide +kernel
theorem dX9_apart_29 : decode cX9_apart 29 = .ok (.iload_n 3, 1) := by decide +kernel
theorem dX9_apart_30 : decode cX9_apart 30 = .ok (.ifCond .ge 8, 3) := by decide +kernel
theorem dX9_apart_33 : decode cX9_apart 33 = .ok (.iload_n 3, 1) := by decide +kernel
theorem dX9_apart_34 : decode cX9_apart 34 = .ok (.ineg, 1) := by decide +kernel
theorem dX9_apart_35 : decode cX9_apart 35 = .ok (.goto 4, 3) := by decide +kernel
theorem dX9_apart_38 : decode cX9_apart 38 = .ok (.iload_n 3, 1) := by decide +kernel
theorem dX9_apart_39 : decode cX9_apart 39 = .ok (.iload 4, 2) := by decide +kernel
theorem dX9_apart_41 : decode cX9_apart 41 = .ok (.ifCond .ge 9, 3) := by decide +kernel
theorem dX9_apart_44 : decode cX9_apart 44 = .ok (.iload 4, 2) := by decide +kernel
theorem dX9_apart_46 : decode cX9_apart 46 = .ok (.ineg, 1) := by decide +kernel
theorem dX9_apart_47 : decode cX9_apart 47 = .ok (.goto 5, 3) := by decide +kernel
theorem dX9_apart_50 : decode cX9_apart 50 = .ok (.iload 4, 2) := by decide +kernel
theorem dX9_apart_52 : decode cX9_apart 52 = .ok (.iadd, 1) := by decide +kernel
theorem dX9_apart_53 : decode cX9_apart 53 = .ok (.ireturn, 1) := by decide +kernel
theorem dX9_arrive_0 : decode cX9_arrive 0 = .ok (.aload_n 0, 1) := by decide +kernel
theorem dX9_arrive_1 : decode cX9_arrive 1 = .ok (.iload_n 1, 1) := by decide +kernel
theorem dX9_arrive_2 : decode cX9_arrive 2 = .ok (.putfield 115, 3) := by decide +kernel
theorem dX9_arrive_5 : decode cX9_arrive 5 = .ok (.aload_n 0, 1) := by decide +kernel
theorem dX9_arrive_6 : decode cX9_arrive 6 = .ok (.dup, 1) := by decide +kernel
theorem dX9_arrive_7 : decode cX9_arrive 7 = .ok (.getfield 118, 3) := by decide +kernel
theorem dX9_arrive_10 : decode cX9_arrive 10 = .ok (.iconst 1, 1) := by decide +kernel
theorem dX9_arrive_11 : decode cX9_arrive 11 = .ok (.iload_n 1, 1) := by decide +kernel
theorem dX9_arrive_12 : decode cX9_arrive 12 = .ok (.ishl, 1) := by decide +kernel
theorem dX9_arrive_13 : decode cX9_arrive 13 = .ok (.ior, 1) := by decide +kernel
theorem dX9_arrive_14 : decode cX9_arrive 14 = .ok (.putfield 118, 3) := by decide +kernel
theorem dX9_arrive_17 : decode cX9_arrive 17 = .ok (.aload_n 0, 1) := by decide +kernel
theorem dX9_arrive_18 : decode cX9_arrive 18 = .ok (.dup, 1) := by decide +kernel
theorem dX9_arrive_19 : decode cX9_arrive 19 = .ok (.getfield 121, 3) := by decide +kernel
theorem dX9_arrive_22 : decode cX9_arrive 22 = .ok (.aload_n 0, 1) := by decide +kernel
theorem dX9_arrive_23 : decode cX9_arrive 23 = .ok (.getfield 7, 3) := by decide +kernel
theorem dX9_arrive_26 : decode cX9_arrive 26 = .ok (.iload_n 1, 1) := by decide +kernel
theorem dX9_arrive_27 : decode cX9_arrive 27 = .ok (.iaload, 1) := by decide +kernel
theorem dX9_arrive_28 : decode cX9_arrive 28 = .ok (.bipush 100, 2) := by decide +kernel
theorem dX9_arrive_30 : decode cX9_arrive 30 = .ok (.if_icmp .ne 9, 3) := by decide +kernel
theorem dX9_arrive_33 : decode cX9_arrive 33 = .ok (.iconst 1, 1) := by decide +kernel
theorem dX9_arrive_34 : decode cX9_arrive 34 = .ok (.iload_n 1, 1) := by decide +kernel
theorem dX9_arrive_35 : decode cX9_arrive 35 = .ok (.ishl, 1) := by decide +kernel
theorem dX9_arrive_36 : decode cX9_arrive 36 = .ok (.goto 4, 3) := by decide +kernel
theorem dX9_arrive_39 : decode cX9_arrive 39 = .ok (.iconst 0, 1) := by decide +kernel
theorem dX9_arrive_40 : decode cX9_arrive 40 = .ok (.ior, 1) := by decide +kernel
theorem dX9_arrive_41 : decode cX9_arrive 41 = .ok (.putfield 121, 3) := by decide +kernel
theorem dX9_arrive_44 : decode cX9_arrive 44 = .ok (.return_, 1) := by decide +kernel
set_option maxRecDepth 20000 in
theorem ggX9_begin_X9_arrive : GoodIn wsX9_begin wsX9_arrive := goodIn_r _ [9, 10, 3, 2, 11, 12, 13, 14, 15, 16, 17, 18, 19, 20, 21, 22, 23, 24, 25, 26, 27, 28, 29, 30, 31, 32, 33, 34, 35, 36, 37, 38, 39, 40, 41, 42, 43] (by decide +kernel) (by decide +kernel)
set_option maxRecDepth 20000 in
theorem gX9_begin_X9_arrive : GoodIn wsX9_begin (wsV RX9 128 RX9 yX9_arrive wsX9_arrive) := goodIn_app (goodIn_of _ (by decide +kernel)) ggX9_begin_X9_arrive
theorem dX9_begin_0 : decode cX9_begin 0 = .ok (.aload_n 0, 1) := by decide +kernel
theorem dX9_begin_1 : decode cX9_begin 1 = .ok (.iconst 0, 1) := by decide +kernel
theorem dX9_begin_2 : decode cX9_begin 2 = .ok (.putfield 124, 3) := by decide +kernel
theorem dX9_begin_5 : decode cX9_begin 5 = .ok (.aload_n 0, 1) := by decide +kernel
theorem dX9_begin_6 : decode cX9_begin 6 = .ok (.iconst 0, 1) := by decide +kernel
theorem dX9_begin_7 : decode cX9_begin 7 = .ok (.putfield 121, 3) := by decide +kernel
theorem dX9_begin_10 : decode cX9_begin 10 = .ok (.aload_n 0, 1) := by decide +kernel
theorem dX9_begin_11 : decode cX9_begin 11 = .ok (.iconst 0, 1) := by decide +kernel
theorem dX9_begin_12 : decode cX9_begin 12 = .ok (.putfield 118, 3) := by decide +kernel
theorem dX9_begin_15 : decode cX9_begin 15 = .ok (.aload_n 0, 1) := by decide +kernel
theorem dX9_begin_16 : decode cX9_begin 16 = .ok (.aload_n 0, 1) := by decide +kernel
theorem dX9_begin_17 : decode cX9_begin 17 = .ok (.getfield 61, 3) := by decide +kernel
theorem dX9_begin_20 : decode cX9_begin 20 = .ok (.invokevirtual 128, 3) := by decide +kernel
theorem dX9_begin_23 : decode cX9_begin 23 = .ok (.return_, 1) := by decide +kernel
set_option maxRecDepth 20000 in
theorem ggX9_step_X9_beyond : GoodIn wsX9_step wsX9_beyond := goodIn_r _ [7, 8, 9, 10, 11, 6, 12, 13, 14, 15, 16, 17, 24, 25, 26, 27, 28, 29, 30, 31, 32, 33, 34, 35, 36, 37, 38, 39, 40, 41, 42, 43, 44, 45, 46, 47, 48, 49, 50, 51, 52, 53, 54, 55] (by decide +kernel) (by decide +kernel)
set_option maxRecDepth 20000 in
theorem gX9_step_X9_beyond : GoodIn wsX9_step (wsV RX9 108 RX9 yX9_beyond wsX9_beyond) := goodIn_app (goodIn_of _ (by decide +kernel)) ggX9_step_X9_beyond
set_option maxRecDepth 20000 in
theorem ggX9_step_X9_arrive : GoodIn wsX9_step wsX9_arrive := goodIn_r _ [21, 1, 22, 23, 17, 24, 25, 26, 27, 28, 29, 30, 31, 32, 33, 34, 35, 36, 37, 38, 39, 40, 41, 42, 43, 44, 45, 46, 47, 48, 49, 50, 51, 52, 53, 54, 55] (by decide +kernel) (by decide +kernel)
set_option maxRecDepth 20000 in
theorem gX9_step_X9_arrive : GoodIn wsX9_step (wsV RX9 128 RX9 yX9_arrive wsX9_arrive) := goodIn_app (goodIn_of _ (by decide +kernel)) ggX9_step_X9_arrive
theorem dX9_step_0 : decode cX9_step 0 = .ok (.iload_n 1, 1) := by decide +kernel
theorem dX9_step_1 : decode cX9_step 1 = .ok (.iconst 4, 1) := by decide +kernel
theorem dX9_step_2 : decode cX9_step 2 = .ok (.if_icmp .ne 10, 3) := by decide +kernel
theorem dX9_step_5 : decode cX9_step 5 = .ok (.aload_n 0, 1) := by decide +kernel
theorem dX9_step_6 : decode cX9_step 6 = .ok (.getfield 115, 3) := by decide +kernel
theorem dX9_step_9 : decode cX9_step 9 = .ok (.goto 12, 3) := by decide +kernel
theorem dX9_step_12 : decode cX9_step 12 = .ok (.aload_n 0, 1) := by decide +kernel
theorem dX9_step_13 : decode cX9_step 13 = .ok (.aload_n 0, 1) := by decide +kernel
theorem dX9_step_14 : decode cX9_step 14 = .ok (.getfield 115, 3) := by decide +kernel
theorem dX9_step_17 : decode cX9_step 17 = .ok (.iload_n 1, 1) := by decide +kernel
theorem dX9_step_18 : decode cX9_step 18 = .ok (.invokevirtual 108, 3) := by decide +kernel
theorem dX9_step_21 : decode cX9_step 21 = .ok (.istore_n 2, 1) := by decide +kernel
theorem dX9_step_22 : decode cX9_step 22 = .ok (.aload_n 0, 1) := by decide +kernel
theorem dX9_step_23 : decode cX9_step 23 = .ok (.iload_n 1, 1) := by decide +kernel
theorem dX9_step_24 : decode cX9_step 24 = .ok (.iconst 4, 1) := by decide +kernel
theorem dX9_step_25 : decode cX9_step 25 = .ok (.if_icmp .ge 11, 3) := by decide +kernel
theorem dX9_step_28 : decode cX9_step 28 = .ok (.iload_n 2, 1) := by decide +kernel
theorem dX9_step_29 : decode cX9_step 29 = .ok (.ifCond .lt 7, 3) := by decide +kernel
theorem dX9_step_32 : decode cX9_step 32 = .ok (.iconst 1, 1) := by decide +kernel
theorem dX9_step_33 : decode cX9_step 33 = .ok (.goto 4, 3) := by decide +kernel
theorem dX9_step_36 : decode cX9_step 36 = .ok (.iconst 0, 1) := by decide +kernel
theorem dX9_step_37 : decode cX9_step 37 = .ok (.putfield 124, 3) := by decide +kernel
theorem dX9_step_40 : decode cX9_step 40 = .ok (.iload_n 2, 1) := by decide +kernel
theorem dX9_step_41 : decode cX9_step 41 = .ok (.ifCond .lt 8, 3) := by decide +kernel
theorem dX9_step_44 : decode cX9_step 44 = .ok (.aload_n 0, 1) := by decide +kernel
theorem dX9_step_45 : decode cX9_step 45 = .ok (.iload_n 2, 1) := by decide +kernel
theorem dX9_step_46 : decode cX9_step 46 = .ok (.invokevirtual 128, 3) := by decide +kernel
theorem dX9_step_49 : decode cX9_step 49 = .ok (.iload_n 2, 1) := by decide +kernel
theorem dX9_step_50 : decode cX9_step 50 = .ok (.ifCond .lt 7, 3) := by decide +kernel
theorem dX9_step_53 : decode cX9_step 53 = .ok (.iconst 1, 1) := by decide +kernel
theorem dX9_step_54 : decode cX9_step 54 = .ok (.goto 4, 3) := by decide +kernel
theorem dX9_step_57 : decode cX9_step 57 = .ok (.iconst 0, 1) := by decide +kernel
theorem dX9_step_58 : decode cX9_step 58 = .ok (.ireturn, 1) := by decide +kernel
set_option maxRecDepth 20000 in
theorem ggX9_why_X9_seenBy : GoodIn wsX9_why wsX9_seenBy := goodIn_r _ [12, 4, 13, 14, 15, 16, 11, 17, 18, 19, 20, 21, 22, 23, 24, 25, 26, 27, 28, 29, 30, 3, 35, 36, 37, 38, 39, 40, 41, 42, 43, 44, 45, 46, 47, 48, 49, 50, 51, 52, 53, 54, 55, 56, 57, 58, 59, 60, 61, 62, 63, 64, 65, 66] (by decide +kernel) (by decide +kernel)
set_option maxRecDepth 20000 in
theorem gX9_why_X9_seenBy : GoodIn wsX9_why (wsV RX9 132 RX9 yX9_seenBy wsX9_seenBy) := goodIn_app (goodIn_of _ (by decide +kernel)) ggX9_why_X9_seenBy
set_option maxRecDepth 20000 in
theorem ggX9_why_X9_apart : GoodIn wsX9_why wsX9_apart := goodIn_r _ [34, 22, 35, 36, 37, 38, 39, 40, 41, 42, 43, 44, 45, 46, 47, 48, 49, 50, 51, 52, 53, 54, 55, 56, 57, 58, 59, 60, 61, 62, 63, 64, 65, 66] (by decide +kernel) (by decide +kernel)
set_option maxRecDepth 20000 in
theorem gX9_why_X9_apart : GoodIn wsX9_why (wsV RX9 135 RX9 yX9_apart wsX9_apart) := goodIn_app (goodIn_of _ (by decide +kernel)) ggX9_why_X9_apart
theorem dX9_why_0 : decode cX9_why 0 = .ok (.aload_n 0, 1) := by decide +kernel
theorem dX9_why_1 : decode cX9_why 1 = .ok (.iload_n 1, 1) := by decide +kernel
theorem dX9_why_2 : decode cX9_why 2 = .ok (.invokevirtual 132, 3) := by decide +kernel
theorem dX9_why_5 : decode cX9_why 5 = .ok (.aload_n 0, 1) := by decide +kernel
theorem dX9_why_6 : decode cX9_why 6 = .ok (.getfield 115, 3) := by decide +kernel
theorem dX9_why_9 : decode cX9_why 9 = .ok (.ishr, 1) := by decide +kernel
theorem dX9_why_10 : decode cX9_why 10 = .ok (.iconst 1, 1) := by decide +kernel
theorem dX9_why_11 : decode cX9_why 11 = .ok (.iand, 1) := by decide +kernel
theorem dX9_why_12 : decode cX9_why 12 = .ok (.iconst 1, 1) := by decide +kernel
theorem dX9_why_13 : decode cX9_why 13 = .ok (.if_icmp .ne 7, 3) := by decide +kernel
theorem dX9_why_16 : decode cX9_why 16 = .ok (.iconst 1, 1) := by decide +kernel
theorem dX9_why_17 : decode cX9_why 17 = .ok (.goto 4, 3) := by decide +kernel
theorem dX9_why_20 : decode cX9_why 20 = .ok (.iconst 0, 1) := by decide +kernel
theorem dX9_why_21 : decode cX9_why 21 = .ok (.istore_n 3, 1) := by decide +kernel
theorem dX9_why_22 : decode cX9_why 22 = .ok (.iload_n 2, 1) := by decide +kernel
theorem dX9_why_23 : decode cX9_why 23 = .ok (.ifCond .eq 30, 3) := by decide +kernel
theorem dX9_why_26 : decode cX9_why 26 = .ok (.aload_n 0, 1) := by decide +kernel
theorem dX9_why_27 : decode cX9_why 27 = .ok (.getfield 124, 3) := by decide +kernel
theorem dX9_why_30 : decode cX9_why 30 = .ok (.ifCond .eq 23, 3) := by decide +kernel
theorem dX9_why_33 : decode cX9_why 33 = .ok (.aload_n 0, 1) := by decide +kernel
theorem dX9_why_34 : decode cX9_why 34 = .ok (.getfield 7, 3) := by decide +kernel
theorem dX9_why_37 : decode cX9_why 37 = .ok (.aload_n 0, 1) := by decide +kernel
theorem dX9_why_38 : decode cX9_why 38 = .ok (.getfield 115, 3) := by decide +kernel
theorem dX9_why_41 : decode cX9_why 41 = .ok (.iaload, 1) := by decide +kernel
theorem dX9_why_42 : decode cX9_why 42 = .ok (.bipush 103, 2) := by decide +kernel
theorem dX9_why_44 : decode cX9_why 44 = .ok (.if_icmp .ne 9, 3) := by decide +kernel
theorem dX9_why_47 : decode cX9_why 47 = .ok (.iload_n 3, 1) := by decide +kernel
theorem dX9_why_48 : decode cX9_why 48 = .ok (.ifCond .eq 5, 3) := by decide +kernel
theorem dX9_why_51 : decode cX9_why 51 = .ok (.iconst 1, 1) := by decide +kernel
theorem dX9_why_52 : decode cX9_why 52 = .ok (.ireturn, 1) := by decide +kernel
theorem dX9_why_53 : decode cX9_why 53 = .ok (.aload_n 0, 1) := by decide +kernel
theorem dX9_why_54 : decode cX9_why 54 = .ok (.getfield 124, 3) := by decide +kernel
theorem dX9_why_57 : decode cX9_why 57 = .ok (.ifCond .eq 40, 3) := by decide +kernel
theorem dX9_why_60 : decode cX9_why 60 = .ok (.aload_n 0, 1) := by decide +kernel
theorem dX9_why_61 : decode cX9_why 61 = .ok (.getfield 7, 3) := by decide +kernel
theorem dX9_why_64 : decode cX9_why 64 = .ok (.aload_n 0, 1) := by decide +kernel
theorem dX9_why_65 : decode cX9_why 65 = .ok (.getfield 115, 3) := by decide +kernel
theorem dX9_why_68 : decode cX9_why 68 = .ok (.iaload, 1) := by decide +kernel
theorem dX9_why_69 : decode cX9_why 69 = .ok (.bipush 99, 2) := by decide +kernel
theorem dX9_why_71 : decode cX9_why 71 = .ok (.if_icmp .ne 26, 3) := by decide +kernel
theorem dX9_why_74 : decode cX9_why 74 = .ok (.aload_n 0, 1) := by decide +kernel
theorem dX9_why_75 : decode cX9_why 75 = .ok (.aload_n 0, 1) := by decide +kernel
theorem dX9_why_76 : decode cX9_why 76 = .ok (.getfield 115, 3) := by decide +kernel
theorem dX9_why_79 : decode cX9_why 79 = .ok (.aload_n 0, 1) := by decide +kernel
theorem dX9_why_80 : decode cX9_why 80 = .ok (.getfield 13, 3) := by decide +kernel
theorem dX9_why_83 : decode cX9_why 83 = .ok (.iload_n 1, 1) := by decide +kernel
theorem dX9_why_84 : decode cX9_why 84 = .ok (.iaload, 1) := by decide +kernel
theorem dX9_why_85 : decode cX9_why 85 = .ok (.invokevirtual 135, 3) := by decide +kernel
theorem dX9_why_88 : decode cX9_why 88 = .ok (.aload_n 0, 1) := by decide +kernel
theorem dX9_why_89 : decode cX9_why 89 = .ok (.getfield 47, 3) := by decide +kernel
theorem dX9_why_92 : decode cX9_why 92 = .ok (.if_icmp .gt 5, 3) := by decide +kernel
theorem dX9_why_95 : decode cX9_why 95 = .ok (.iconst 2, 1) := by decide +kernel
theorem dX9_why_96 : decode cX9_why 96 = .ok (.ireturn, 1) := by decide +kernel
theorem dX9_why_97 : decode cX9_why 97 = .ok (.aload_n 0, 1) := by decide +kernel
theorem dX9_why_98 : decode cX9_why 98 = .ok (.iload_n 1, 1) := by decide +kernel
theorem dX9_why_99 : decode cX9_why 99 = .ok (.invokevirtual 132, 3) := by decide +kernel
theorem dX9_why_102 : decode cX9_why 102 = .ok (.aload_n 0, 1) := by decide +kernel
theorem dX9_why_103 : decode cX9_why 103 = .ok (.getfield 121, 3) := by decide +kernel
theorem dX9_why_106 : decode cX9_why 106 = .ok (.iand, 1) := by decide +kernel
theorem dX9_why_107 : decode cX9_why 107 = .ok (.ifCond .eq 5, 3) := by decide +kernel
theorem dX9_why_110 : decode cX9_why 110 = .ok (.iconst 3, 1) := by decide +kernel
theorem dX9_why_111 : decode cX9_why 111 = .ok (.ireturn, 1) := by decide +kernel
theorem dX9_why_112 : decode cX9_why 112 = .ok (.aload_n 0, 1) := by decide +kernel
theorem dX9_why_113 : decode cX9_why 113 = .ok (.getfield 19, 3) := by decide +kernel
theorem dX9_why_116 : decode cX9_why 116 = .ok (.iload_n 1, 1) := by decide +kernel
theorem dX9_why_117 : decode cX9_why 117 = .ok (.iaload, 1) := by decide +kernel
theorem dX9_why_118 : decode cX9_why 118 = .ok (.iconst 1, 1) := by decide +kernel
theorem dX9_why_119 : decode cX9_why 119 = .ok (.if_icmp .ne 25, 3) := by decide +kernel
theorem dX9_why_122 : decode cX9_why 122 = .ok (.aload_n 0, 1) := by decide +kernel
theorem dX9_why_123 : decode cX9_why 123 = .ok (.aload_n 0, 1) := by decide +kernel
theorem dX9_why_124 : decode cX9_why 124 = .ok (.getfield 115, 3) := by decide +kernel
theorem dX9_why_127 : decode cX9_why 127 = .ok (.aload_n 0, 1) := by decide +kernel
theorem dX9_why_128 : decode cX9_why 128 = .ok (.getfield 13, 3) := by decide +kernel
theorem dX9_why_131 : decode cX9_why 131 = .ok (.iload_n 1, 1) := by decide +kernel
theorem dX9_why_132 : decode cX9_why 132 = .ok (.iaload, 1) := by decide +kernel
theorem dX9_why_133 : decode cX9_why 133 = .ok (.invokevirtual 135, 3) := by decide +kernel
theorem dX9_why_136 : decode cX9_why 136 = .ok (.iconst 1, 1) := by decide +kernel
theorem dX9_why_137 : decode cX9_why 137 = .ok (.if_icmp .gt 7, 3) := by decide +kernel
theorem dX9_why_140 : decode cX9_why 140 = .ok (.iconst 4, 1) := by decide +kernel
theorem dX9_why_141 : decode cX9_why 141 = .ok (.goto 5, 3) := by decide +kernel
theorem dX9_why_144 : decode cX9_why 144 = .ok (.bipush (-6), 2) := by decide +kernel
theorem dX9_why_146 : decode cX9_why 146 = .ok (.ireturn, 1) := by decide +kernel
set_option maxRecDepth 20000 in
theorem ggX9_shownTo_X9_why : GoodIn wsX9_shownTo wsX9_why := goodIn_r _ [6, 7, 8, 9, 10, 11, 12, 13, 14, 15, 16, 5, 17, 18, 19, 20, 21, 22, 23, 24, 25, 26, 27, 28, 29, 30, 31, 32, 33, 34, 35, 36, 37, 38, 39, 40, 41, 42, 43, 44, 45, 46, 47, 48, 49, 50, 51, 52, 53, 54, 55, 56, 57, 58, 59, 60, 61, 62, 63, 64, 65, 66, 67, 68, 69, 70, 71] (by decide +kernel) (by decide +kernel)
set_option maxRecDepth 20000 in
theorem gX9_shownTo_X9_why : GoodIn wsX9_shownTo (wsV RX9 138 RX9 yX9_why wsX9_why) := goodIn_app (goodIn_of _ (by decide +kernel)) ggX9_shownTo_X9_why
theorem dX9_shownTo_0 : decode cX9_shownTo 0 = .ok (.iconst 0, 1) := by decide +kernel
theorem dX9_shownTo_1 : decode cX9_shownTo 1 = .ok (.istore_n 2, 1) := by decide +kernel
theorem dX9_shownTo_2 : decode cX9_shownTo 2 = .ok (.iload_n 2, 1) := by decide +kernel
theorem dX9_shownTo_3 : decode cX9_shownTo 3 = .ok (.aload_n 0, 1) := by decide +kernel
theorem dX9_shownTo_4 : decode cX9_shownTo 4 = .ok (.getfield 67, 3) := by decide +kernel
theorem dX9_shownTo_7 : decode cX9_shownTo 7 = .ok (.if_icmp .ge 20, 3) := by decide +kernel
theorem dX9_shownTo_10 : decode cX9_shownTo 10 = .ok (.aload_n 0, 1) := by decide +kernel
theorem dX9_shownTo_11 : decode cX9_shownTo 11 = .ok (.iload_n 2, 1) := by decide +kernel
theorem dX9_shownTo_12 : decode cX9_shownTo 12 = .ok (.iload_n 1, 1) := by decide +kernel
theorem dX9_shownTo_13 : decode cX9_shownTo 13 = .ok (.invokevirtual 138, 3) := by decide +kernel
theorem dX9_shownTo_16 : decode cX9_shownTo 16 = .ok (.ifCond .le 5, 3) := by decide +kernel
theorem dX9_shownTo_19 : decode cX9_shownTo 19 = .ok (.iload_n 2, 1) := by decide +kernel
theorem dX9_shownTo_20 : decode cX9_shownTo 20 = .ok (.ireturn, 1) := by decide +kernel
theorem dX9_shownTo_21 : decode cX9_shownTo 21 = .ok (.iinc 2 1, 3) := by decide +kernel
theorem dX9_shownTo_24 : decode cX9_shownTo 24 = .ok (.goto (-22), 3) := by decide +kernel
theorem dX9_shownTo_27 : decode cX9_shownTo 27 = .ok (.bipush (-6), 2) := by decide +kernel
theorem dX9_shownTo_29 : decode cX9_shownTo 29 = .ok (.ireturn, 1) := by decide +kernel
theorem dX9_wayOf_0 : decode cX9_wayOf 0 = .ok (.iload_n 0, 1) := by decide +kernel
theorem dX9_wayOf_1 : decode cX9_wayOf 1 = .ok (.bipush 110, 2) := by decide +kernel
theorem dX9_wayOf_3 : decode cX9_wayOf 3 = .ok (.if_icmp .ne 7, 3) := by decide +kernel
theorem dX9_wayOf_6 : decode cX9_wayOf 6 = .ok (.iconst 0, 1) := by decide +kernel
theorem dX9_wayOf_7 : decode cX9_wayOf 7 = .ok (.goto 34, 3) := by decide +kernel
theorem dX9_wayOf_10 : decode cX9_wayOf 10 = .ok (.iload_n 0, 1) := by decide +kernel
theorem dX9_wayOf_11 : decode cX9_wayOf 11 = .ok (.bipush 101, 2) := by decide +kernel
theorem dX9_wayOf_13 : decode cX9_wayOf 13 = .ok (.if_icmp .ne 7, 3) := by decide +kernel
theorem dX9_wayOf_16 : decode cX9_wayOf 16 = .ok (.iconst 1, 1) := by decide +kernel
theorem dX9_wayOf_17 : decode cX9_wayOf 17 = .ok (.goto 24, 3) := by decide +kernel
theorem dX9_wayOf_20 : decode cX9_wayOf 20 = .ok (.iload_n 0, 1) := by decide +kernel
theorem dX9_wayOf_21 : decode cX9_wayOf 21 = .ok (.bipush 115, 2) := by decide +kernel
theorem dX9_wayOf_23 : decode cX9_wayOf 23 = .ok (.if_icmp .ne 7, 3) := by decide +kernel
theorem dX9_wayOf_26 : decode cX9_wayOf 26 = .ok (.iconst 2, 1) := by decide +kernel
theorem dX9_wayOf_27 : decode cX9_wayOf 27 = .ok (.goto 14, 3) := by decide +kernel
theorem dX9_wayOf_30 : decode cX9_wayOf 30 = .ok (.iload_n 0, 1) := by decide +kernel
theorem dX9_wayOf_31 : decode cX9_wayOf 31 = .ok (.bipush 119, 2) := by decide +kernel
theorem dX9_wayOf_33 : decode cX9_wayOf 33 = .ok (.if_icmp .ne 7, 3) := by decide +kernel
theorem dX9_wayOf_36 : decode cX9_wayOf 36 = .ok (.iconst 3, 1) := by decide +kernel
theorem dX9_wayOf_37 : decode cX9_wayOf 37 = .ok (.goto 4, 3) := by decide +kernel
theorem dX9_wayOf_40 : decode cX9_wayOf 40 = .ok (.iconst 4, 1) := by decide +kernel
theorem dX9_wayOf_41 : decode cX9_wayOf 41 = .ok (.ireturn, 1) := by decide +kernel
set_option maxRecDepth 20000 in
theorem ggX9_goWalk_X9_begin : GoodIn wsX9_goWalk wsX9_begin := goodIn_r _ [13, 14, 15, 16, 17, 18, 19, 20, 12, 21, 22, 23, 69, 70, 71, 72, 73, 74, 75, 76, 77, 78, 79, 80, 81, 82, 83, 84, 85, 86, 87, 88, 89, 90, 91, 92, 93, 94, 95, 96, 97, 98, 99, 100] (by decide +kernel) (by decide +kernel)
set_option maxRecDepth 20000 in
theorem gX9_goWalk_X9_begin : GoodIn wsX9_goWalk (wsV RX9 142 RX9 yX9_begin wsX9_begin) := goodIn_app (goodIn_of _ (by decide +kernel)) ggX9_goWalk_X9_begin
set_option maxRecDepth 20000 in
theorem ggX9_goWalk_X9_wayOf : GoodIn wsX9_goWalk wsX9_wayOf := goodIn_r _ [26] (by decide +kernel) (by decide +kernel)
set_option maxRecDepth 20000 in
theorem gX9_goWalk_X9_wayOf : GoodIn wsX9_goWalk (va_wsS RX9 163 yX9_wayOf wsX9_wayOf) := goodIn_app (goodIn_of _ (by decide +kernel)) ggX9_goWalk_X9_wayOf
set_option maxRecDepth 20000 in
theorem ggX9_goWalk_X9_step : GoodIn wsX9_goWalk wsX9_step := goodIn_r _ [30, 22, 14, 31, 32, 33, 12, 34, 35, 36, 37, 38, 39, 40, 41, 42, 43, 23, 18, 19, 20, 21, 16, 15, 69, 70, 71, 72, 73, 74, 75, 76, 77, 78, 79, 80, 81, 82, 83, 84, 85, 86, 87, 88, 89, 90, 91, 92, 93, 94, 95, 96, 97, 98, 99, 100] (by decide +kernel) (by decide +kernel)
set_option maxRecDepth 20000 in
theorem gX9_goWalk_X9_step : GoodIn wsX9_goWalk (wsV RX9 166 RX9 yX9_step wsX9_step) := goodIn_app (goodIn_of _ (by decide +kernel)) ggX9_goWalk_X9_step
set_option maxRecDepth 20000 in
theorem ggX9_goWalk_X9_shownTo : GoodIn wsX9_goWalk wsX9_shownTo := goodIn_r _ [47, 48, 49, 50, 51, 12, 52, 22, 14, 23, 53, 54, 15, 55, 56, 57, 58, 59, 60, 61, 62, 63, 64, 31, 32, 33, 34, 35, 36, 37, 38, 39, 40, 41, 42, 43, 65, 66, 67, 68, 69, 70, 71, 72, 73, 74, 75, 76, 77, 78, 79, 80, 81, 82, 83, 84, 85, 86, 87, 88, 89, 90, 91, 92, 93, 94, 95, 96, 97, 98, 99, 100] (by decide +kernel) (by decide +kernel)
set_option maxRecDepth 20000 in
theorem gX9_goWalk_X9_shownTo : GoodIn wsX9_goWalk (wsV RX9 169 RX9 yX9_shownTo wsX9_shownTo) := goodIn_app (goodIn_of _ (by decide +kernel)) ggX9_goWalk_X9_shownTo
set_option maxRecDepth 20000 in
theorem ggX9_goWalk_X9_why : GoodIn wsX9_goWalk wsX9_why := goodIn_r _ [52, 22, 14, 23, 53, 54, 15, 55, 56, 57, 58, 12, 59, 60, 61, 62, 63, 64, 31, 32, 33, 34, 35, 36, 37, 38, 39, 40, 41, 42, 43, 65, 66, 67, 68, 69, 70, 71, 72, 73, 74, 75, 76, 77, 78, 79, 80, 81, 82, 83, 84, 85, 86, 87, 88, 89, 90, 91, 92, 93, 94, 95, 96, 97, 98, 99, 100] (by decide +kernel) (by decide +kernel)
set_option maxRecDepth 20000 in
theorem gX9_goWalk_X9_why : GoodIn wsX9_goWalk (wsV RX9 138 RX9 yX9_why wsX9_why) := goodIn_app (goodIn_of _ (by decide +kernel)) ggX9_goWalk_X9_why
theorem dX9_goWalk_0 : decode cX9_goWalk 0 = .ok (.aload_n 0, 1) := by decide +kernel
theorem dX9_goWalk_1 : decode cX9_goWalk 1 = .ok (.invokevirtual 142, 3) := by decide +kernel
theorem dX9_goWalk_4 : decode cX9_goWalk 4 = .ok (.aload_n 0, 1) := by decide +kernel
theorem dX9_goWalk_5 : decode cX9_goWalk 5 = .ok (.bipush (-6), 2) := by decide +kernel
theorem dX9_goWalk_7 : decode cX9_goWalk 7 = .ok (.putfield 145, 3) := by decide +kernel
theorem dX9_goWalk_10 : decode cX9_goWalk 10 = .ok (.aload_n 0, 1) := by decide +kernel
theorem dX9_goWalk_11 : decode cX9_goWalk 11 = .ok (.bipush (-6), 2) := by decide +kernel
theorem dX9_goWalk_13 : decode cX9_goWalk 13 = .ok (.putfield 148, 3) := by decide +kernel
theorem dX9_goWalk_16 : decode cX9_goWalk 16 = .ok (.aload_n 0, 1) := by decide +kernel
theorem dX9_goWalk_17 : decode cX9_goWalk 17 = .ok (.bipush (-6), 2) := by decide +kernel
theorem dX9_goWalk_19 : decode cX9_goWalk 19 = .ok (.putfield 151, 3) := by decide +kernel
theorem dX9_goWalk_22 : decode cX9_goWalk 22 = .ok (.aload_n 0, 1) := by decide +kernel
theorem dX9_goWalk_23 : decode cX9_goWalk 23 = .ok (.bipush (-6), 2) := by decide +kernel
theorem dX9_goWalk_25 : decode cX9_goWalk 25 = .ok (.putfield 154, 3) := by decide +kernel
theorem dX9_goWalk_28 : decode cX9_goWalk 28 = .ok (.aload_n 0, 1) := by decide +kernel
theorem dX9_goWalk_29 : decode cX9_goWalk 29 = .ok (.iconst 0, 1) := by decide +kernel
theorem dX9_goWalk_30 : decode cX9_goWalk 30 = .ok (.putfield 157, 3) := by decide +kernel
theorem dX9_goWalk_33 : decode cX9_goWalk 33 = .ok (.aload_n 0, 1) := by decide +kernel
theorem dX9_goWalk_34 : decode cX9_goWalk 34 = .ok (.iconst 0, 1) := by decide +kernel
theorem dX9_goWalk_35 : decode cX9_goWalk 35 = .ok (.putfield 160, 3) := by decide +kernel
theorem dX9_goWalk_38 : decode cX9_goWalk 38 = .ok (.iconst 0, 1) := by decide +kernel
theorem dX9_goWalk_39 : decode cX9_goWalk 39 = .ok (.istore_n 1, 1) := by decide +kernel
theorem dX9_goWalk_40 : decode cX9_goWalk 40 = .ok (.iload_n 1, 1) := by decide +kernel
theorem dX9_goWalk_41 : decode cX9_goWalk 41 = .ok (.aload_n 0, 1) := by decide +kernel
theorem dX9_goWalk_42 : decode cX9_goWalk 42 = .ok (.getfield 84, 3) := by decide +kernel
theorem dX9_goWalk_45 : decode cX9_goWalk 45 = .ok (.if_icmp .ge 121, 3) := by decide +kernel
theorem dX9_goWalk_48 : decode cX9_goWalk 48 = .ok (.aload_n 0, 1) := by decide +kernel
theorem dX9_goWalk_49 : decode cX9_goWalk 49 = .ok (.getfield 145, 3) := by decide +kernel
theorem dX9_goWalk_52 : decode cX9_goWalk 52 = .ok (.ifCond .ge 114, 3) := by decide +kernel
theorem dX9_goWalk_55 : decode cX9_goWalk 55 = .ok (.aload_n 0, 1) := by decide +kernel
theorem dX9_goWalk_56 : decode cX9_goWalk 56 = .ok (.aload_n 0, 1) := by decide +kernel
theorem dX9_goWalk_57 : decode cX9_goWalk 57 = .ok (.getfield 22, 3) := by decide +kernel
theorem dX9_goWalk_60 : decode cX9_goWalk 60 = .ok (.iload_n 1, 1) := by decide +kernel
theorem dX9_goWalk_61 : decode cX9_goWalk 61 = .ok (.iaload, 1) := by decide +kernel
theorem dX9_goWalk_62 : decode cX9_goWalk 62 = .ok (.invokestatic 163, 3) := by decide +kernel
theorem dX9_goWalk_65 : decode cX9_goWalk 65 = .ok (.invokevirtual 166, 3) := by decide +kernel
theorem dX9_goWalk_68 : decode cX9_goWalk 68 = .ok (.ifCond .ne 11, 3) := by decide +kernel
theorem dX9_goWalk_71 : decode cX9_goWalk 71 = .ok (.aload_n 0, 1) := by decide +kernel
theorem dX9_goWalk_72 : decode cX9_goWalk 72 = .ok (.iload_n 1, 1) := by decide +kernel
theorem dX9_goWalk_73 : decode cX9_goWalk 73 = .ok (.putfield 145, 3) := by decide +kernel
theorem dX9_goWalk_76 : decode cX9_goWalk 76 = .ok (.goto 84, 3) := by decide +kernel
theorem dX9_goWalk_79 : decode cX9_goWalk 79 = .ok (.aload_n 0, 1) := by decide +kernel
theorem dX9_goWalk_80 : decode cX9_goWalk 80 = .ok (.iconst 1, 1) := by decide +kernel
theorem dX9_goWalk_81 : decode cX9_goWalk 81 = .ok (.invokevirtual 169, 3) := by decide +kernel
theorem dX9_goWalk_84 : decode cX9_goWalk 84 = .ok (.istore_n 2, 1) := by decide +kernel
theorem dX9_goWalk_85 : decode cX9_goWalk 85 = .ok (.iload_n 2, 1) := by decide +kernel
theorem dX9_goWalk_86 : decode cX9_goWalk 86 = .ok (.ifCond .lt 30, 3) := by decide +kernel
theorem dX9_goWalk_89 : decode cX9_goWalk 89 = .ok (.aload_n 0, 1) := by decide +kernel
theorem dX9_goWalk_90 : decode cX9_goWalk 90 = .ok (.getfield 148, 3) := by decide +kernel
theorem dX9_goWalk_93 : decode cX9_goWalk 93 = .ok (.ifCond .ge 23, 3) := by decide +kernel
theorem dX9_goWalk_96 : decode cX9_goWalk 96 = .ok (.aload_n 0, 1) := by decide +kernel
theorem dX9_goWalk_97 : decode cX9_goWalk 97 = .ok (.iload_n 1, 1) := by decide +kernel
theorem dX9_goWalk_98 : decode cX9_goWalk 98 = .ok (.putfield 148, 3) := by decide +kernel
theorem dX9_goWalk_101 : decode cX9_goWalk 101 = .ok (.aload_n 0, 1) := by decide +kernel
theorem dX9_goWalk_102 : decode cX9_goWalk 102 = .ok (.iload_n 2, 1) := by decide +kernel
theorem dX9_goWalk_103 : decode cX9_goWalk 103 = .ok (.putfield 151, 3) := by decide +kernel
theorem dX9_goWalk_106 : decode cX9_goWalk 106 = .ok (.aload_n 0, 1) := by decide +kernel
theorem dX9_goWalk_107 : decode cX9_goWalk 107 = .ok (.aload_n 0, 1) := by decide +kernel
theorem dX9_goWalk_108 : decode cX9_goWalk 108 = .ok (.iload_n 2, 1) := by decide +kernel
theorem dX9_goWalk_109 : decode cX9_goWalk 109 = .ok (.iconst 1, 1) := by decide +kernel
theorem dX9_goWalk_110 : decode cX9_goWalk 110 = .ok (.invokevirtual 138, 3) := by decide +kernel
theorem dX9_goWalk_113 : decode cX9_goWalk 113 = .ok (.putfield 154, 3) := by decide +kernel
theorem dX9_goWalk_116 : decode cX9_goWalk 116 = .ok (.aload_n 0, 1) := by decide +kernel
theorem dX9_goWalk_117 : decode cX9_goWalk 117 = .ok (.dup, 1) := by decide +kernel
theorem dX9_goWalk_118 : decode cX9_goWalk 118 = .ok (.getfield 157, 3) := by decide +kernel
theorem dX9_goWalk_121 : decode cX9_goWalk 121 = .ok (.iload_n 2, 1) := by decide +kernel
theorem dX9_goWalk_122 : decode cX9_goWalk 122 = .ok (.ifCond .lt 7, 3) := by decide +kernel
theorem dX9_goWalk_125 : decode cX9_goWalk 125 = .ok (.iconst 1, 1) := by decide +kernel
theorem dX9_goWalk_126 : decode cX9_goWalk 126 = .ok (.goto 4, 3) := by decide +kernel
theorem dX9_goWalk_129 : decode cX9_goWalk 129 = .ok (.iconst 0, 1) := by decide +kernel
theorem dX9_goWalk_130 : decode cX9_goWalk 130 = .ok (.iadd, 1) := by decide +kernel
theorem dX9_goWalk_131 : decode cX9_goWalk 131 = .ok (.putfield 157, 3) := by decide +kernel
theorem dX9_goWalk_134 : decode cX9_goWalk 134 = .ok (.aload_n 0, 1) := by decide +kernel
theorem dX9_goWalk_135 : decode cX9_goWalk 135 = .ok (.dup, 1) := by decide +kernel
theorem dX9_goWalk_136 : decode cX9_goWalk 136 = .ok (.getfield 160, 3) := by decide +kernel
theorem dX9_goWalk_139 : decode cX9_goWalk 139 = .ok (.iload_n 2, 1) := by decide +kernel
theorem dX9_goWalk_140 : decode cX9_goWalk 140 = .ok (.ifCond .lt 15, 3) := by decide +kernel
theorem dX9_goWalk_143 : decode cX9_goWalk 143 = .ok (.aload_n 0, 1) := by decide +kernel
theorem dX9_goWalk_144 : decode cX9_goWalk 144 = .ok (.iconst 0, 1) := by decide +kernel
theorem dX9_goWalk_145 : decode cX9_goWalk 145 = .ok (.invokevirtual 169, 3) := by decide +kernel
theorem dX9_goWalk_148 : decode cX9_goWalk 148 = .ok (.ifCond .ge 7, 3) := by decide +kernel
theorem dX9_goWalk_151 : decode cX9_goWalk 151 = .ok (.iconst 1, 1) := by decide +kernel
theorem dX9_goWalk_152 : decode cX9_goWalk 152 = .ok (.goto 4, 3) := by decide +kernel
theorem dX9_goWalk_155 : decode cX9_goWalk 155 = .ok (.iconst 0, 1) := by decide +kernel
theorem dX9_goWalk_156 : decode cX9_goWalk 156 = .ok (.iadd, 1) := by decide +kernel
theorem dX9_goWalk_157 : decode cX9_goWalk 157 = .ok (.putfield 160, 3) := by decide +kernel
theorem dX9_goWalk_160 : decode cX9_goWalk 160 = .ok (.iinc 1 1, 3) := by decide +kernel
theorem dX9_goWalk_163 : decode cX9_goWalk 163 = .ok (.goto (-123), 3) := by decide +kernel
theorem dX9_goWalk_166 : decode cX9_goWalk 166 = .ok (.return_, 1) := by decide +kernel
set_option maxRecDepth 20000 in
theorem ggX9_refusal_X9_fault : GoodIn wsX9_refusal wsX9_fault := goodIn_r _ [6, 7, 8, 9, 10, 5, 11, 12, 13, 14, 15, 16, 17, 18, 19, 20, 21, 22, 23, 87, 88, 89, 90, 91, 92, 93, 94, 95, 96, 97, 98, 99, 100, 101, 102, 103, 104, 105, 106, 107, 108, 109, 110, 111, 112, 113, 114, 115, 116, 117, 118] (by decide +kernel) (by decide +kernel)
set_option maxRecDepth 20000 in
theorem gX9_refusal_X9_fault : GoodIn wsX9_refusal (wsV RX9 94 RX9 yX9_fault wsX9_fault) := goodIn_app (goodIn_of _ (by decide +kernel)) ggX9_refusal_X9_fault
set_option maxRecDepth 20000 in
theorem ggX9_refusal_X9_goWalk : GoodIn wsX9_refusal wsX9_goWalk := goodIn_r _ [27, 1, 28, 29, 30, 31, 32, 7, 8, 33, 34, 35, 5, 36, 37, 38, 39, 40, 41, 42, 43, 44, 45, 46, 47, 48, 49, 50, 51, 52, 53, 54, 55, 56, 57, 17, 16, 9, 10, 11, 58, 59, 60, 61, 62, 63, 64, 65, 66, 67, 68, 69, 70, 71, 72, 73, 74, 75, 76, 77, 78, 79, 80, 81, 82, 83, 84, 85, 86, 87, 88, 89, 90, 91, 92, 93, 94, 95, 96, 97, 98, 99, 100, 101, 102, 103, 104, 105, 106, 107, 108, 109, 110, 111, 112, 113, 114, 115, 116, 117, 118] (by decide +kernel) (by decide +kernel)
set_option maxRecDepth 20000 in
theorem gX9_refusal_X9_goWalk : GoodIn wsX9_refusal (wsV RX9 173 RX9 yX9_goWalk wsX9_goWalk) := goodIn_app (goodIn_of _ (by decide +kernel)) ggX9_refusal_X9_goWalk
theorem dX9_refusal_0 : decode cX9_refusal 0 = .ok (.aload_n 0, 1) := by decide +kernel
theorem dX9_refusal_1 : decode cX9_refusal 1 = .ok (.iconst 1, 1) := by decide +kernel
theorem dX9_refusal_2 : decode cX9_refusal 2 = .ok (.invokevirtual 94, 3) := by decide +kernel
theorem dX9_refusal_5 : decode cX9_refusal 5 = .ok (.ifCond .lt 6, 3) := by decide +kernel
theorem dX9_refusal_8 : decode cX9_refusal 8 = .ok (.bipush (-5), 2) := by decide +kernel
theorem dX9_refusal_10 : decode cX9_refusal 10 = .ok (.ireturn, 1) := by decide +kernel
theorem dX9_refusal_11 : decode cX9_refusal 11 = .ok (.aload_n 0, 1) := by decide +kernel
theorem dX9_refusal_12 : decode cX9_refusal 12 = .ok (.invokevirtual 173, 3) := by decide +kernel
theorem dX9_refusal_15 : decode cX9_refusal 15 = .ok (.aload_n 0, 1) := by decide +kernel
theorem dX9_refusal_16 : decode cX9_refusal 16 = .ok (.getfield 145, 3) := by decide +kernel
theorem dX9_refusal_19 : decode cX9_refusal 19 = .ok (.ifCond .lt 8, 3) := by decide +kernel
theorem dX9_refusal_22 : decode cX9_refusal 22 = .ok (.bipush (-3), 2) := by decide +kernel
theorem dX9_refusal_24 : decode cX9_refusal 24 = .ok (.goto 5, 3) := by decide +kernel
theorem dX9_refusal_27 : decode cX9_refusal 27 = .ok (.bipush (-6), 2) := by decide +kernel
theorem dX9_refusal_29 : decode cX9_refusal 29 = .ok (.ireturn, 1) := by decide +kernel
set_option maxRecDepth 20000 in
theorem ggX9_judge_X9_in : GoodIn wsX9_judge wsX9_in := goodIn_r _ [11] (by decide +kernel) (by decide +kernel)
set_option maxRecDepth 20000 in
theorem gX9_judge_X9_in : GoodIn wsX9_judge (va_wsS RX9 74 yX9_in wsX9_in) := goodIn_app (goodIn_of _ (by decide +kernel)) ggX9_judge_X9_in
set_option maxRecDepth 20000 in
theorem ggX9_judge_X9_refusal : GoodIn wsX9_judge wsX9_refusal := goodIn_r _ [15, 2, 16, 17, 18, 10, 19, 20, 21, 8, 9, 11, 22, 23, 24, 25, 26, 27, 28, 29, 30, 31, 32, 33, 34, 35, 36, 37, 3, 4, 5, 6, 38, 39, 40, 41, 42, 43, 44, 45, 46, 47, 48, 49, 50, 7, 51, 52, 53, 54, 55, 56, 57, 58, 59, 60, 61, 62, 63, 64, 65, 66, 67, 68, 69, 70, 71, 72, 73, 74, 75, 76, 77, 78, 79, 80, 81, 82, 83, 84, 85, 86, 87, 88, 89, 90, 91, 92, 93, 94, 95, 96, 97, 98, 99, 100, 101, 102, 103, 104, 105, 106, 107, 108, 109, 110, 111, 112, 113, 114, 115, 116, 117, 118, 119, 120, 121, 122, 123] (by decide +kernel) (by decide +kernel)
set_option maxRecDepth 20000 in
theorem gX9_judge_X9_refusal : GoodIn wsX9_judge (wsV RX9 178 RX9 yX9_refusal wsX9_refusal) := goodIn_app (goodIn_of _ (by decide +kernel)) ggX9_judge_X9_refusal
theorem dX9_judge_0 : decode cX9_judge 0 = .ok (.iload_n 1, 1) := by decide +kernel
theorem dX9_judge_1 : decode cX9_judge 1 = .ok (.i2l, 1) := by decide +kernel
theorem dX9_judge_2 : decode cX9_judge 2 = .ok (.lconst 0, 1) := by decide +kernel
theorem dX9_judge_3 : decode cX9_judge 3 = .ok (.ldc2_w 176, 3) := by decide +kernel
theorem dX9_judge_6 : decode cX9_judge 6 = .ok (.invokestatic 74, 3) := by decide +kernel
theorem dX9_judge_9 : decode cX9_judge 9 = .ok (.ifCond .ne 6, 3) := by decide +kernel
theorem dX9_judge_12 : decode cX9_judge 12 = .ok (.bipush (-2), 2) := by decide +kernel
theorem dX9_judge_14 : decode cX9_judge 14 = .ok (.ireturn, 1) := by decide +kernel
theorem dX9_judge_15 : decode cX9_judge 15 = .ok (.aload_n 0, 1) := by decide +kernel
theorem dX9_judge_16 : decode cX9_judge 16 = .ok (.invokevirtual 178, 3) := by decide +kernel
theorem dX9_judge_19 : decode cX9_judge 19 = .ok (.istore_n 2, 1) := by decide +kernel
theorem dX9_judge_20 : decode cX9_judge 20 = .ok (.iload_n 2, 1) := by decide +kernel
theorem dX9_judge_21 : decode cX9_judge 21 = .ok (.bipush (-5), 2) := by decide +kernel
theorem dX9_judge_23 : decode cX9_judge 23 = .ok (.if_icmp .eq 13, 3) := by decide +kernel
theorem dX9_judge_26 : decode cX9_judge 26 = .ok (.iload_n 1, 1) := by decide +kernel
theorem dX9_judge_27 : decode cX9_judge 27 = .ok (.ifCond .le 11, 3) := by decide +kernel
theorem dX9_judge_30 : decode cX9_judge 30 = .ok (.iload_n 2, 1) := by decide +kernel
theorem dX9_judge_31 : decode cX9_judge 31 = .ok (.bipush (-6), 2) := by decide +kernel
theorem dX9_judge_33 : decode cX9_judge 33 = .ok (.if_icmp .eq 5, 3) := by decide +kernel
theorem dX9_judge_36 : decode cX9_judge 36 = .ok (.iload_n 2, 1) := by decide +kernel
theorem dX9_judge_37 : decode cX9_judge 37 = .ok (.ireturn, 1) := by decide +kernel
theorem dX9_judge_38 : decode cX9_judge 38 = .ok (.iload_n 1, 1) := by decide +kernel
theorem dX9_judge_39 : decode cX9_judge 39 = .ok (.tableswitch 58 0 4 #[33, 38, 43, 48, 53], 33) := by decide +kernel
theorem dX9_judge_72 : decode cX9_judge 72 = .ok (.aload_n 0, 1) := by decide +kernel
theorem dX9_judge_73 : decode cX9_judge 73 = .ok (.getfield 145, 3) := by decide +kernel
theorem dX9_judge_76 : decode cX9_judge 76 = .ok (.ireturn, 1) := by decide +kernel
theorem dX9_judge_77 : decode cX9_judge 77 = .ok (.aload_n 0, 1) := by decide +kernel
theorem dX9_judge_78 : decode cX9_judge 78 = .ok (.getfield 148, 3) := by decide +kernel
theorem dX9_judge_81 : decode cX9_judge 81 = .ok (.ireturn, 1) := by decide +kernel
theorem dX9_judge_82 : decode cX9_judge 82 = .ok (.aload_n 0, 1) := by decide +kernel
theorem dX9_judge_83 : decode cX9_judge 83 = .ok (.getfield 151, 3) := by decide +kernel
theorem dX9_judge_86 : decode cX9_judge 86 = .ok (.ireturn, 1) := by decide +kernel
theorem dX9_judge_87 : decode cX9_judge 87 = .ok (.aload_n 0, 1) := by decide +kernel
theorem dX9_judge_88 : decode cX9_judge 88 = .ok (.getfield 154, 3) := by decide +kernel
theorem dX9_judge_91 : decode cX9_judge 91 = .ok (.ireturn, 1) := by decide +kernel
theorem dX9_judge_92 : decode cX9_judge 92 = .ok (.aload_n 0, 1) := by decide +kernel
theorem dX9_judge_93 : decode cX9_judge 93 = .ok (.getfield 157, 3) := by decide +kernel
theorem dX9_judge_96 : decode cX9_judge 96 = .ok (.ireturn, 1) := by decide +kernel
theorem dX9_judge_97 : decode cX9_judge 97 = .ok (.aload_n 0, 1) := by decide +kernel
theorem dX9_judge_98 : decode cX9_judge 98 = .ok (.getfield 115, 3) := by decide +kernel
theorem dX9_judge_101 : decode cX9_judge 101 = .ok (.ireturn, 1) := by decide +kernel
set_option maxRecDepth 20000 in
theorem ggX9_sees_X9_in : GoodIn wsX9_sees wsX9_in := goodIn_r _ [5] (by decide +kernel) (by decide +kernel)
set_option maxRecDepth 20000 in
theorem gX9_sees_X9_in : GoodIn wsX9_sees (va_wsS RX9 74 yX9_in wsX9_in) := goodIn_app (goodIn_of _ (by decide +kernel)) ggX9_sees_X9_in
set_option maxRecDepth 20000 in
theorem ggX9_sees_X9_seenBy : GoodIn wsX9_sees wsX9_seenBy := goodIn_r _ [9, 10, 11, 12, 13, 14, 4, 15, 16, 17, 18, 19, 20, 21, 2, 3, 5, 22, 23, 24, 25, 26, 27, 28, 29, 30, 31, 32, 33, 34, 35, 36, 37, 38, 39, 40, 41, 42, 43, 44, 45, 46, 47, 48, 49, 50, 51, 52, 53, 54, 55, 56, 57, 58] (by decide +kernel) (by decide +kernel)
set_option maxRecDepth 20000 in
theorem gX9_sees_X9_seenBy : GoodIn wsX9_sees (wsV RX9 132 RX9 yX9_seenBy wsX9_seenBy) := goodIn_app (goodIn_of _ (by decide +kernel)) ggX9_sees_X9_seenBy
theorem dX9_sees_0 : decode cX9_sees 0 = .ok (.iload_n 1, 1) := by decide +kernel
theorem dX9_sees_1 : decode cX9_sees 1 = .ok (.i2l, 1) := by decide +kernel
theorem dX9_sees_2 : decode cX9_sees 2 = .ok (.lconst 0, 1) := by decide +kernel
theorem dX9_sees_3 : decode cX9_sees 3 = .ok (.aload_n 0, 1) := by decide +kernel
theorem dX9_sees_4 : decode cX9_sees 4 = .ok (.getfield 67, 3) := by decide +kernel
theorem dX9_sees_7 : decode cX9_sees 7 = .ok (.iconst 1, 1) := by decide +kernel
theorem dX9_sees_8 : decode cX9_sees 8 = .ok (.isub, 1) := by decide +kernel
theorem dX9_sees_9 : decode cX9_sees 9 = .ok (.i2l, 1) := by decide +kernel
theorem dX9_sees_10 : decode cX9_sees 10 = .ok (.invokestatic 74, 3) := by decide +kernel
theorem dX9_sees_13 : decode cX9_sees 13 = .ok (.ifCond .eq 11, 3) := by decide +kernel
theorem dX9_sees_16 : decode cX9_sees 16 = .ok (.aload_n 0, 1) := by decide +kernel
theorem dX9_sees_17 : decode cX9_sees 17 = .ok (.iload_n 1, 1) := by decide +kernel
theorem dX9_sees_18 : decode cX9_sees 18 = .ok (.invokevirtual 132, 3) := by decide +kernel
theorem dX9_sees_21 : decode cX9_sees 21 = .ok (.goto 4, 3) := by decide +kernel
theorem dX9_sees_24 : decode cX9_sees 24 = .ok (.iconst (-1), 1) := by decide +kernel
theorem dX9_sees_25 : decode cX9_sees 25 = .ok (.ireturn, 1) := by decide +kernel
set_option maxRecDepth 20000 in
theorem ggX9_isBare_X9_isWall : GoodIn wsX9_isBare wsX9_isWall := goodIn_r _ [10, 2, 33, 34, 35, 36, 37, 38, 39, 40, 41, 42, 43, 44, 45, 46, 47, 48, 49, 50, 51, 52, 53, 54, 55, 56, 57, 58, 59, 60, 61, 62, 63, 64] (by decide +kernel) (by decide +kernel)
set_option maxRecDepth 20000 in
theorem gX9_isBare_X9_isWall : GoodIn wsX9_isBare (wsV RX9 101 RX9 yX9_isWall wsX9_isWall) := goodIn_app (goodIn_of _ (by decide +kernel)) ggX9_isBare_X9_isWall
set_option maxRecDepth 20000 in
theorem ggX9_isBare_X9_seenBy : GoodIn wsX9_isBare wsX9_seenBy := goodIn_r _ [14, 3, 15, 16, 17, 18, 9, 19, 20, 21, 22, 23, 24, 25, 26, 27, 28, 6, 7, 8, 10, 2, 33, 34, 35, 36, 37, 38, 39, 40, 41, 42, 43, 44, 45, 46, 47, 48, 49, 50, 51, 52, 53, 54, 55, 56, 57, 58, 59, 60, 61, 62, 63, 64] (by decide +kernel) (by decide +kernel)
set_option maxRecDepth 20000 in
theorem gX9_isBare_X9_seenBy : GoodIn wsX9_isBare (wsV RX9 132 RX9 yX9_seenBy wsX9_seenBy) := goodIn_app (goodIn_of _ (by decide +kernel)) ggX9_isBare_X9_seenBy
set_option maxRecDepth 20000 in
theorem ggX9_isBare_X9_apart : GoodIn wsX9_isBare wsX9_apart := goodIn_r _ [32, 24, 33, 34, 35, 36, 37, 38, 39, 40, 41, 42, 43, 44, 45, 46, 47, 48, 49, 50, 51, 52, 53, 54, 55, 56, 57, 58, 59, 60, 61, 62, 63, 64] (by decide +kernel) (by decide +kernel)
set_option maxRecDepth 20000 in
theorem gX9_isBare_X9_apart : GoodIn wsX9_isBare (wsV RX9 135 RX9 yX9_apart wsX9_apart) := goodIn_app (goodIn_of _ (by decide +kernel)) ggX9_isBare_X9_apart
theorem dX9_isBare_0 : decode cX9_isBare 0 = .ok (.aload_n 0, 1) := by decide +kernel
theorem dX9_isBare_1 : decode cX9_isBare 1 = .ok (.iload_n 1, 1) := by decide +kernel
theorem dX9_isBare_2 : decode cX9_isBare 2 = .ok (.invokevirtual 101, 3) := by decide +kernel
theorem dX9_isBare_5 : decode cX9_isBare 5 = .ok (.ifCond .ne 7, 3) := by decide +kernel
theorem dX9_isBare_8 : decode cX9_isBare 8 = .ok (.iconst 1, 1) := by decide +kernel
theorem dX9_isBare_9 : decode cX9_isBare 9 = .ok (.goto 4, 3) := by decide +kernel
theorem dX9_isBare_12 : decode cX9_isBare 12 = .ok (.iconst 0, 1) := by decide +kernel
theorem dX9_isBare_13 : decode cX9_isBare 13 = .ok (.istore_n 2, 1) := by decide +kernel
theorem dX9_isBare_14 : decode cX9_isBare 14 = .ok (.iconst 0, 1) := by decide +kernel
theorem dX9_isBare_15 : decode cX9_isBare 15 = .ok (.istore_n 3, 1) := by decide +kernel
theorem dX9_isBare_16 : decode cX9_isBare 16 = .ok (.iload_n 3, 1) := by decide +kernel
theorem dX9_isBare_17 : decode cX9_isBare 17 = .ok (.aload_n 0, 1) := by decide +kernel
theorem dX9_isBare_18 : decode cX9_isBare 18 = .ok (.getfield 67, 3) := by decide +kernel
theorem dX9_isBare_21 : decode cX9_isBare 21 = .ok (.if_icmp .ge 132, 3) := by decide +kernel
theorem dX9_isBare_24 : decode cX9_isBare 24 = .ok (.aload_n 0, 1) := by decide +kernel
theorem dX9_isBare_25 : decode cX9_isBare 25 = .ok (.iload_n 3, 1) := by decide +kernel
theorem dX9_isBare_26 : decode cX9_isBare 26 = .ok (.invokevirtual 132, 3) := by decide +kernel
theorem dX9_isBare_29 : decode cX9_isBare 29 = .ok (.iload_n 1, 1) := by decide +kernel
theorem dX9_isBare_30 : decode cX9_isBare 30 = .ok (.ishr, 1) := by decide +kernel
theorem dX9_isBare_31 : decode cX9_isBare 31 = .ok (.iconst 1, 1) := by decide +kernel
theorem dX9_isBare_32 : decode cX9_isBare 32 = .ok (.iand, 1) := by decide +kernel
theorem dX9_isBare_33 : decode cX9_isBare 33 = .ok (.iconst 1, 1) := by decide +kernel
theorem dX9_isBare_34 : decode cX9_isBare 34 = .ok (.if_icmp .ne 7, 3) := by decide +kernel
theorem dX9_isBare_37 : decode cX9_isBare 37 = .ok (.iconst 1, 1) := by decide +kernel
theorem dX9_isBare_38 : decode cX9_isBare 38 = .ok (.goto 4, 3) := by decide +kernel
theorem dX9_isBare_41 : decode cX9_isBare 41 = .ok (.iconst 0, 1) := by decide +kernel
theorem dX9_isBare_42 : decode cX9_isBare 42 = .ok (.istore 4, 2) := by decide +kernel
theorem dX9_isBare_44 : decode cX9_isBare 44 = .ok (.iload 4, 2) := by decide +kernel
theorem dX9_isBare_46 : decode cX9_isBare 46 = .ok (.ifCond .eq 25, 3) := by decide +kernel
theorem dX9_isBare_49 : decode cX9_isBare 49 = .ok (.aload_n 0, 1) := by decide +kernel
theorem dX9_isBare_50 : decode cX9_isBare 50 = .ok (.getfield 7, 3) := by decide +kernel
theorem dX9_isBare_53 : decode cX9_isBare 53 = .ok (.iload_n 1, 1) := by decide +kernel
theorem dX9_isBare_54 : decode cX9_isBare 54 = .ok (.iaload, 1) := by decide +kernel
theorem dX9_isBare_55 : decode cX9_isBare 55 = .ok (.bipush 103, 2) := by decide +kernel
theorem dX9_isBare_57 : decode cX9_isBare 57 = .ok (.if_icmp .eq 68, 3) := by decide +kernel
theorem dX9_isBare_60 : decode cX9_isBare 60 = .ok (.aload_n 0, 1) := by decide +kernel
theorem dX9_isBare_61 : decode cX9_isBare 61 = .ok (.getfield 7, 3) := by decide +kernel
theorem dX9_isBare_64 : decode cX9_isBare 64 = .ok (.iload_n 1, 1) := by decide +kernel
theorem dX9_isBare_65 : decode cX9_isBare 65 = .ok (.iaload, 1) := by decide +kernel
theorem dX9_isBare_66 : decode cX9_isBare 66 = .ok (.bipush 100, 2) := by decide +kernel
theorem dX9_isBare_68 : decode cX9_isBare 68 = .ok (.if_icmp .eq 57, 3) := by decide +kernel
theorem dX9_isBare_71 : decode cX9_isBare 71 = .ok (.aload_n 0, 1) := by decide +kernel
theorem dX9_isBare_72 : decode cX9_isBare 72 = .ok (.getfield 7, 3) := by decide +kernel
theorem dX9_isBare_75 : decode cX9_isBare 75 = .ok (.iload_n 1, 1) := by decide +kernel
theorem dX9_isBare_76 : decode cX9_isBare 76 = .ok (.iaload, 1) := by decide +kernel
theorem dX9_isBare_77 : decode cX9_isBare 77 = .ok (.bipush 99, 2) := by decide +kernel
theorem dX9_isBare_79 : decode cX9_isBare 79 = .ok (.if_icmp .ne 21, 3) := by decide +kernel
theorem dX9_isBare_82 : decode cX9_isBare 82 = .ok (.aload_n 0, 1) := by decide +kernel
theorem dX9_isBare_83 : decode cX9_isBare 83 = .ok (.iload_n 1, 1) := by decide +kernel
theorem dX9_isBare_84 : decode cX9_isBare 84 = .ok (.aload_n 0, 1) := by decide +kernel
theorem dX9_isBare_85 : decode cX9_isBare 85 = .ok (.getfield 13, 3) := by decide +kernel
theorem dX9_isBare_88 : decode cX9_isBare 88 = .ok (.iload_n 3, 1) := by decide +kernel
theorem dX9_isBare_89 : decode cX9_isBare 89 = .ok (.iaload, 1) := by decide +kernel
theorem dX9_isBare_90 : decode cX9_isBare 90 = .ok (.invokevirtual 135, 3) := by decide +kernel
theorem dX9_isBare_93 : decode cX9_isBare 93 = .ok (.aload_n 0, 1) := by decide +kernel
theorem dX9_isBare_94 : decode cX9_isBare 94 = .ok (.getfield 47, 3) := by decide +kernel
theorem dX9_isBare_97 : decode cX9_isBare 97 = .ok (.if_icmp .le 28, 3) := by decide +kernel
theorem dX9_isBare_100 : decode cX9_isBare 100 = .ok (.aload_n 0, 1) := by decide +kernel
theorem dX9_isBare_101 : decode cX9_isBare 101 = .ok (.getfield 19, 3) := by decide +kernel
theorem dX9_isBare_104 : decode cX9_isBare 104 = .ok (.iload_n 3, 1) := by decide +kernel
theorem dX9_isBare_105 : decode cX9_isBare 105 = .ok (.iaload, 1) := by decide +kernel
theorem dX9_isBare_106 : decode cX9_isBare 106 = .ok (.iconst 1, 1) := by decide +kernel
theorem dX9_isBare_107 : decode cX9_isBare 107 = .ok (.if_icmp .ne 22, 3) := by decide +kernel
theorem dX9_isBare_110 : decode cX9_isBare 110 = .ok (.aload_n 0, 1) := by decide +kernel
theorem dX9_isBare_111 : decode cX9_isBare 111 = .ok (.iload_n 1, 1) := by decide +kernel
theorem dX9_isBare_112 : decode cX9_isBare 112 = .ok (.aload_n 0, 1) := by decide +kernel
theorem dX9_isBare_113 : decode cX9_isBare 113 = .ok (.getfield 13, 3) := by decide +kernel
theorem dX9_isBare_116 : decode cX9_isBare 116 = .ok (.iload_n 3, 1) := by decide +kernel
theorem dX9_isBare_117 : decode cX9_isBare 117 = .ok (.iaload, 1) := by decide +kernel
theorem dX9_isBare_118 : decode cX9_isBare 118 = .ok (.invokevirtual 135, 3) := by decide +kernel
theorem dX9_isBare_121 : decode cX9_isBare 121 = .ok (.iconst 1, 1) := by decide +kernel
theorem dX9_isBare_122 : decode cX9_isBare 122 = .ok (.if_icmp .gt 7, 3) := by decide +kernel
theorem dX9_isBare_125 : decode cX9_isBare 125 = .ok (.iconst 1, 1) := by decide +kernel
theorem dX9_isBare_126 : decode cX9_isBare 126 = .ok (.goto 4, 3) := by decide +kernel
theorem dX9_isBare_129 : decode cX9_isBare 129 = .ok (.iconst 0, 1) := by decide +kernel
theorem dX9_isBare_130 : decode cX9_isBare 130 = .ok (.istore 5, 2) := by decide +kernel
theorem dX9_isBare_132 : decode cX9_isBare 132 = .ok (.iload_n 2, 1) := by decide +kernel
theorem dX9_isBare_133 : decode cX9_isBare 133 = .ok (.ifCond .eq 12, 3) := by decide +kernel
theorem dX9_isBare_136 : decode cX9_isBare 136 = .ok (.iload 5, 2) := by decide +kernel
theorem dX9_isBare_138 : decode cX9_isBare 138 = .ok (.ifCond .ne 7, 3) := by decide +kernel
theorem dX9_isBare_141 : decode cX9_isBare 141 = .ok (.iconst 1, 1) := by decide +kernel
theorem dX9_isBare_142 : decode cX9_isBare 142 = .ok (.goto 4, 3) := by decide +kernel
theorem dX9_isBare_145 : decode cX9_isBare 145 = .ok (.iconst 0, 1) := by decide +kernel
theorem dX9_isBare_146 : decode cX9_isBare 146 = .ok (.istore_n 2, 1) := by decide +kernel
theorem dX9_isBare_147 : decode cX9_isBare 147 = .ok (.iinc 3 1, 3) := by decide +kernel
theorem dX9_isBare_150 : decode cX9_isBare 150 = .ok (.goto (-134), 3) := by decide +kernel
theorem dX9_isBare_153 : decode cX9_isBare 153 = .ok (.iload_n 2, 1) := by decide +kernel
theorem dX9_isBare_154 : decode cX9_isBare 154 = .ok (.ireturn, 1) := by decide +kernel
set_option maxRecDepth 20000 in
theorem ggX9_bare_X9_cells : GoodIn wsX9_bare wsX9_cells := goodIn_r _ [5, 6, 7, 41, 42, 43, 44, 45, 46, 47, 48, 49, 50, 51, 52, 53, 54, 55, 56, 57, 58, 59, 60, 61, 62, 63, 64, 65, 66, 67, 68, 69, 70, 71, 72] (by decide +kernel) (by decide +kernel)
set_option maxRecDepth 20000 in
theorem gX9_bare_X9_cells : GoodIn wsX9_bare (wsV RX9 70 RX9 yX9_cells wsX9_cells) := goodIn_app (goodIn_of _ (by decide +kernel)) ggX9_bare_X9_cells
set_option maxRecDepth 20000 in
theorem ggX9_bare_X9_isBare : GoodIn wsX9_bare wsX9_isBare := goodIn_r _ [11, 12, 13, 14, 15, 16, 17, 18, 19, 4, 20, 21, 22, 23, 24, 25, 26, 27, 28, 29, 30, 31, 32, 33, 7, 6, 34, 35, 36, 37, 38, 39, 40, 41, 42, 43, 44, 45, 46, 47, 48, 49, 50, 51, 52, 53, 54, 55, 56, 57, 58, 59, 60, 61, 62, 63, 64, 65, 66, 67, 68, 69, 70, 71, 72] (by decide +kernel) (by decide +kernel)
set_option maxRecDepth 20000 in
theorem gX9_bare_X9_isBare : GoodIn wsX9_bare (wsV RX9 181 RX9 yX9_isBare wsX9_isBare) := goodIn_app (goodIn_of _ (by decide +kernel)) ggX9_bare_X9_isBare
theorem dX9_bare_0 : decode cX9_bare 0 = .ok (.iconst 0, 1) := by decide +kernel
theorem dX9_bare_1 : decode cX9_bare 1 = .ok (.istore_n 1, 1) := by decide +kernel
theorem dX9_bare_2 : decode cX9_bare 2 = .ok (.iconst 0, 1) := by decide +kernel
theorem dX9_bare_3 : decode cX9_bare 3 = .ok (.istore_n 2, 1) := by decide +kernel
theorem dX9_bare_4 : decode cX9_bare 4 = .ok (.iload_n 2, 1) := by decide +kernel
theorem dX9_bare_5 : decode cX9_bare 5 = .ok (.aload_n 0, 1) := by decide +kernel
theorem dX9_bare_6 : decode cX9_bare 6 = .ok (.invokevirtual 70, 3) := by decide +kernel
theorem dX9_bare_9 : decode cX9_bare 9 = .ok (.if_icmp .ge 27, 3) := by decide +kernel
theorem dX9_bare_12 : decode cX9_bare 12 = .ok (.iload_n 1, 1) := by decide +kernel
theorem dX9_bare_13 : decode cX9_bare 13 = .ok (.aload_n 0, 1) := by decide +kernel
theorem dX9_bare_14 : decode cX9_bare 14 = .ok (.iload_n 2, 1) := by decide +kernel
theorem dX9_bare_15 : decode cX9_bare 15 = .ok (.invokevirtual 181, 3) := by decide +kernel
theorem dX9_bare_18 : decode cX9_bare 18 = .ok (.ifCond .eq 9, 3) := by decide +kernel
theorem dX9_bare_21 : decode cX9_bare 21 = .ok (.iconst 1, 1) := by decide +kernel
theorem dX9_bare_22 : decode cX9_bare 22 = .ok (.iload_n 2, 1) := by decide +kernel
theorem dX9_bare_23 : decode cX9_bare 23 = .ok (.ishl, 1) := by decide +kernel
theorem dX9_bare_24 : decode cX9_bare 24 = .ok (.goto 4, 3) := by decide +kernel
theorem dX9_bare_27 : decode cX9_bare 27 = .ok (.iconst 0, 1) := by decide +kernel
theorem dX9_bare_28 : decode cX9_bare 28 = .ok (.ior, 1) := by decide +kernel
theorem dX9_bare_29 : decode cX9_bare 29 = .ok (.istore_n 1, 1) := by decide +kernel
theorem dX9_bare_30 : decode cX9_bare 30 = .ok (.iinc 2 1, 3) := by decide +kernel
theorem dX9_bare_33 : decode cX9_bare 33 = .ok (.goto (-29), 3) := by decide +kernel
theorem dX9_bare_36 : decode cX9_bare 36 = .ok (.iload_n 1, 1) := by decide +kernel
theorem dX9_bare_37 : decode cX9_bare 37 = .ok (.ireturn, 1) := by decide +kernel
set_option maxRecDepth 20000 in
theorem ggX9_findFar_X9_cells : GoodIn wsX9_findFar wsX9_cells := goodIn_r _ [6, 7, 8, 21, 22, 23, 24, 25, 26, 27, 28, 29, 30, 31, 32, 33, 34, 35, 36, 37, 38, 39, 40, 41, 42, 43, 44, 45, 46, 47, 48, 49, 50, 51, 52] (by decide +kernel) (by decide +kernel)
set_option maxRecDepth 20000 in
theorem gX9_findFar_X9_cells : GoodIn wsX9_findFar (wsV RX9 70 RX9 yX9_cells wsX9_cells) := goodIn_app (goodIn_of _ (by decide +kernel)) ggX9_findFar_X9_cells
set_option maxRecDepth 20000 in
theorem ggX9_findFar_X9_isWall : GoodIn wsX9_findFar wsX9_isWall := goodIn_r _ [12, 13, 21, 22, 23, 24, 25, 26, 27, 28, 29, 30, 31, 32, 33, 34, 35, 36, 37, 38, 39, 40, 41, 42, 43, 44, 45, 46, 47, 48, 49, 50, 51, 52] (by decide +kernel) (by decide +kernel)
set_option maxRecDepth 20000 in
theorem gX9_findFar_X9_isWall : GoodIn wsX9_findFar (wsV RX9 101 RX9 yX9_isWall wsX9_isWall) := goodIn_app (goodIn_of _ (by decide +kernel)) ggX9_findFar_X9_isWall
set_option maxRecDepth 20000 in
theorem ggX9_findFar_X9_beyond : GoodIn wsX9_findFar wsX9_beyond := goodIn_r _ [17, 8, 7, 18, 19, 5, 20, 9, 10, 11, 12, 13, 21, 22, 23, 24, 25, 26, 27, 28, 29, 30, 31, 32, 33, 34, 35, 36, 37, 38, 39, 40, 41, 42, 43, 44, 45, 46, 47, 48, 49, 50, 51, 52] (by decide +kernel) (by decide +kernel)
set_option maxRecDepth 20000 in
theorem gX9_findFar_X9_beyond : GoodIn wsX9_findFar (wsV RX9 108 RX9 yX9_beyond wsX9_beyond) := goodIn_app (goodIn_of _ (by decide +kernel)) ggX9_findFar_X9_beyond
theorem dX9_findFar_0 : decode cX9_findFar 0 = .ok (.iconst 0, 1) := by decide +kernel
theorem dX9_findFar_1 : decode cX9_findFar 1 = .ok (.istore_n 3, 1) := by decide +kernel
theorem dX9_findFar_2 : decode cX9_findFar 2 = .ok (.iload_n 3, 1) := by decide +kernel
theorem dX9_findFar_3 : decode cX9_findFar 3 = .ok (.bipush 16, 2) := by decide +kernel
theorem dX9_findFar_5 : decode cX9_findFar 5 = .ok (.if_icmp .ge 18, 3) := by decide +kernel
theorem dX9_findFar_8 : decode cX9_findFar 8 = .ok (.aload_n 0, 1) := by decide +kernel
theorem dX9_findFar_9 : decode cX9_findFar 9 = .ok (.getfield 25, 3) := by decide +kernel
theorem dX9_findFar_12 : decode cX9_findFar 12 = .ok (.iload_n 3, 1) := by decide +kernel
theorem dX9_findFar_13 : decode cX9_findFar 13 = .ok (.sipush 1000, 3) := by decide +kernel
theorem dX9_findFar_16 : decode cX9_findFar 16 = .ok (.iastore, 1) := by decide +kernel
theorem dX9_findFar_17 : decode cX9_findFar 17 = .ok (.iinc 3 1, 3) := by decide +kernel
theorem dX9_findFar_20 : decode cX9_findFar 20 = .ok (.goto (-18), 3) := by decide +kernel
theorem dX9_findFar_23 : decode cX9_findFar 23 = .ok (.aload_n 0, 1) := by decide +kernel
theorem dX9_findFar_24 : decode cX9_findFar 24 = .ok (.getfield 25, 3) := by decide +kernel
theorem dX9_findFar_27 : decode cX9_findFar 27 = .ok (.iload_n 1, 1) := by decide +kernel
theorem dX9_findFar_28 : decode cX9_findFar 28 = .ok (.iconst 0, 1) := by decide +kernel
theorem dX9_findFar_29 : decode cX9_findFar 29 = .ok (.iastore, 1) := by decide +kernel
theorem dX9_findFar_30 : decode cX9_findFar 30 = .ok (.iconst 0, 1) := by decide +kernel
theorem dX9_findFar_31 : decode cX9_findFar 31 = .ok (.istore_n 3, 1) := by decide +kernel
theorem dX9_findFar_32 : decode cX9_findFar 32 = .ok (.iload_n 3, 1) := by decide +kernel
theorem dX9_findFar_33 : decode cX9_findFar 33 = .ok (.bipush 16, 2) := by decide +kernel
theorem dX9_findFar_35 : decode cX9_findFar 35 = .ok (.if_icmp .ge 133, 3) := by decide +kernel
theorem dX9_findFar_38 : decode cX9_findFar 38 = .ok (.iconst 0, 1) := by decide +kernel
theorem dX9_findFar_39 : decode cX9_findFar 39 = .ok (.istore 4, 2) := by decide +kernel
theorem dX9_findFar_41 : decode cX9_findFar 41 = .ok (.iload 4, 2) := by decide +kernel
theorem dX9_findFar_43 : decode cX9_findFar 43 = .ok (.aload_n 0, 1) := by decide +kernel
theorem dX9_findFar_44 : decode cX9_findFar 44 = .ok (.invokevirtual 70, 3) := by decide +kernel
theorem dX9_findFar_47 : decode cX9_findFar 47 = .ok (.if_icmp .ge 115, 3) := by decide +kernel
theorem dX9_findFar_50 : decode cX9_findFar 50 = .ok (.iconst 0, 1) := by decide +kernel
theorem dX9_findFar_51 : decode cX9_findFar 51 = .ok (.istore 5, 2) := by decide +kernel
theorem dX9_findFar_53 : decode cX9_findFar 53 = .ok (.iload 5, 2) := by decide +kernel
theorem dX9_findFar_55 : decode cX9_findFar 55 = .ok (.iconst 4, 1) := by decide +kernel
theorem dX9_findFar_56 : decode cX9_findFar 56 = .ok (.if_icmp .ge 100, 3) := by decide +kernel
theorem dX9_findFar_59 : decode cX9_findFar 59 = .ok (.aload_n 0, 1) := by decide +kernel
theorem dX9_findFar_60 : decode cX9_findFar 60 = .ok (.iload 4, 2) := by decide +kernel
theorem dX9_findFar_62 : decode cX9_findFar 62 = .ok (.invokevirtual 101, 3) := by decide +kernel
theorem dX9_findFar_65 : decode cX9_findFar 65 = .ok (.ifCond .ne 91, 3) := by decide +kernel
theorem dX9_findFar_68 : decode cX9_findFar 68 = .ok (.aload_n 0, 1) := by decide +kernel
theorem dX9_findFar_69 : decode cX9_findFar 69 = .ok (.iload 4, 2) := by decide +kernel
theorem dX9_findFar_71 : decode cX9_findFar 71 = .ok (.iload 5, 2) := by decide +kernel
theorem dX9_findFar_73 : decode cX9_findFar 73 = .ok (.invokevirtual 108, 3) := by decide +kernel
theorem dX9_findFar_76 : decode cX9_findFar 76 = .ok (.istore 6, 2) := by decide +kernel
theorem dX9_findFar_78 : decode cX9_findFar 78 = .ok (.iload 6, 2) := by decide +kernel
theorem dX9_findFar_80 : decode cX9_findFar 80 = .ok (.ifCond .lt 17, 3) := by decide +kernel
theorem dX9_findFar_83 : decode cX9_findFar 83 = .ok (.iload_n 2, 1) := by decide +kernel
theorem dX9_findFar_84 : decode cX9_findFar 84 = .ok (.iload 6, 2) := by decide +kernel
theorem dX9_findFar_86 : decode cX9_findFar 86 = .ok (.ishr, 1) := by decide +kernel
theorem dX9_findFar_87 : decode cX9_findFar 87 = .ok (.iconst 1, 1) := by decide +kernel
theorem dX9_findFar_88 : decode cX9_findFar 88 = .ok (.iand, 1) := by decide +kernel
theorem dX9_findFar_89 : decode cX9_findFar 89 = .ok (.iconst 1, 1) := by decide +kernel
theorem dX9_findFar_90 : decode cX9_findFar 90 = .ok (.if_icmp .ne 7, 3) := by decide +kernel
theorem dX9_findFar_93 : decode cX9_findFar 93 = .ok (.iconst 1, 1) := by decide +kernel
theorem dX9_findFar_94 : decode cX9_findFar 94 = .ok (.goto 4, 3) := by decide +kernel
theorem dX9_findFar_97 : decode cX9_findFar 97 = .ok (.iconst 0, 1) := by decide +kernel
theorem dX9_findFar_98 : decode cX9_findFar 98 = .ok (.istore 7, 2) := by decide +kernel
theorem dX9_findFar_100 : decode cX9_findFar 100 = .ok (.aload_n 0, 1) := by decide +kernel
theorem dX9_findFar_101 : decode cX9_findFar 101 = .ok (.getfield 25, 3) := by decide +kernel
theorem dX9_findFar_104 : decode cX9_findFar 104 = .ok (.iload 4, 2) := by decide +kernel
theorem dX9_findFar_106 : decode cX9_findFar 106 = .ok (.iload 7, 2) := by decide +kernel
theorem dX9_findFar_108 : decode cX9_findFar 108 = .ok (.ifCond .eq 34, 3) := by decide +kernel
theorem dX9_findFar_111 : decode cX9_findFar 111 = .ok (.aload_n 0, 1) := by decide +kernel
theorem dX9_findFar_112 : decode cX9_findFar 112 = .ok (.getfield 25, 3) := by decide +kernel
theorem dX9_findFar_115 : decode cX9_findFar 115 = .ok (.iload 6, 2) := by decide +kernel
theorem dX9_findFar_117 : decode cX9_findFar 117 = .ok (.iaload, 1) := by decide +kernel
theorem dX9_findFar_118 : decode cX9_findFar 118 = .ok (.iconst 1, 1) := by decide +kernel
theorem dX9_findFar_119 : decode cX9_findFar 119 = .ok (.iadd, 1) := by decide +kernel
theorem dX9_findFar_120 : decode cX9_findFar 120 = .ok (.aload_n 0, 1) := by decide +kernel
theorem dX9_findFar_121 : decode cX9_findFar 121 = .ok (.getfield 25, 3) := by decide +kernel
theorem dX9_findFar_124 : decode cX9_findFar 124 = .ok (.iload 4, 2) := by decide +kernel
theorem dX9_findFar_126 : decode cX9_findFar 126 = .ok (.iaload, 1) := by decide +kernel
theorem dX9_findFar_127 : decode cX9_findFar 127 = .ok (.if_icmp .ge 15, 3) := by decide +kernel
theorem dX9_findFar_130 : decode cX9_findFar 130 = .ok (.aload_n 0, 1) := by decide +kernel
theorem dX9_findFar_131 : decode cX9_findFar 131 = .ok (.getfield 25, 3) := by decide +kernel
theorem dX9_findFar_134 : decode cX9_findFar 134 = .ok (.iload 6, 2) := by decide +kernel
theorem dX9_findFar_136 : decode cX9_findFar 136 = .ok (.iaload, 1) := by decide +kernel
theorem dX9_findFar_137 : decode cX9_findFar 137 = .ok (.iconst 1, 1) := by decide +kernel
theorem dX9_findFar_138 : decode cX9_findFar 138 = .ok (.iadd, 1) := by decide +kernel
theorem dX9_findFar_139 : decode cX9_findFar 139 = .ok (.goto 10, 3) := by decide +kernel
theorem dX9_findFar_142 : decode cX9_findFar 142 = .ok (.aload_n 0, 1) := by decide +kernel
theorem dX9_findFar_143 : decode cX9_findFar 143 = .ok (.getfield 25, 3) := by decide +kernel
theorem dX9_findFar_146 : decode cX9_findFar 146 = .ok (.iload 4, 2) := by decide +kernel
theorem dX9_findFar_148 : decode cX9_findFar 148 = .ok (.iaload, 1) := by decide +kernel
theorem dX9_findFar_149 : decode cX9_findFar 149 = .ok (.iastore, 1) := by decide +kernel
theorem dX9_findFar_150 : decode cX9_findFar 150 = .ok (.iinc 5 1, 3) := by decide +kernel
theorem dX9_findFar_153 : decode cX9_findFar 153 = .ok (.goto (-100), 3) := by decide +kernel
theorem dX9_findFar_156 : decode cX9_findFar 156 = .ok (.iinc 4 1, 3) := by decide +kernel
theorem dX9_findFar_159 : decode cX9_findFar 159 = .ok (.goto (-118), 3) := by decide +kernel
theorem dX9_findFar_162 : decode cX9_findFar 162 = .ok (.iinc 3 1, 3) := by decide +kernel
theorem dX9_findFar_165 : decode cX9_findFar 165 = .ok (.goto (-133), 3) := by decide +kernel
theorem dX9_findFar_168 : decode cX9_findFar 168 = .ok (.return_, 1) := by decide +kernel
theorem dX9_codeOf_0 : decode cX9_codeOf 0 = .ok (.iload_n 0, 1) := by decide +kernel
theorem dX9_codeOf_1 : decode cX9_codeOf 1 = .ok (.ifCond .ne 8, 3) := by decide +kernel
theorem dX9_codeOf_4 : decode cX9_codeOf 4 = .ok (.bipush 110, 2) := by decide +kernel
theorem dX9_codeOf_6 : decode cX9_codeOf 6 = .ok (.goto 25, 3) := by decide +kernel
theorem dX9_codeOf_9 : decode cX9_codeOf 9 = .ok (.iload_n 0, 1) := by decide +kernel
theorem dX9_codeOf_10 : decode cX9_codeOf 10 = .ok (.iconst 1, 1) := by decide +kernel
theorem dX9_codeOf_11 : decode cX9_codeOf 11 = .ok (.if_icmp .ne 8, 3) := by decide +kernel
theorem dX9_codeOf_14 : decode cX9_codeOf 14 = .ok (.bipush 101, 2) := by decide +kernel
theorem dX9_codeOf_16 : decode cX9_codeOf 16 = .ok (.goto 15, 3) := by decide +kernel
theorem dX9_codeOf_19 : decode cX9_codeOf 19 = .ok (.iload_n 0, 1) := by decide +kernel
theorem dX9_codeOf_20 : decode cX9_codeOf 20 = .ok (.iconst 2, 1) := by decide +kernel
theorem dX9_codeOf_21 : decode cX9_codeOf 21 = .ok (.if_icmp .ne 8, 3) := by decide +kernel
theorem dX9_codeOf_24 : decode cX9_codeOf 24 = .ok (.bipush 115, 2) := by decide +kernel
theorem dX9_codeOf_26 : decode cX9_codeOf 26 = .ok (.goto 5, 3) := by decide +kernel
theorem dX9_codeOf_29 : decode cX9_codeOf 29 = .ok (.bipush 119, 2) := by decide +kernel
theorem dX9_codeOf_31 : decode cX9_codeOf 31 = .ok (.ireturn, 1) := by decide +kernel
set_option maxRecDepth 20000 in
theorem ggX9_layWay_X9_findFar : GoodIn wsX9_layWay wsX9_findFar := goodIn_r _ [7, 8, 9, 10, 11, 6, 12, 13, 14, 15, 16, 17, 18, 19, 20, 21, 22, 23, 24, 25, 26, 34, 35, 36, 37, 38, 39, 40, 41, 42, 43, 44, 45, 46, 47, 48, 49, 50, 51, 52, 53, 54, 55, 56, 57, 58, 59, 60, 61, 62, 63, 64, 65] (by decide +kernel) (by decide +kernel)
set_option maxRecDepth 20000 in
theorem gX9_layWay_X9_findFar : GoodIn wsX9_layWay (wsV RX9 184 RX9 yX9_findFar wsX9_findFar) := goodIn_app (goodIn_of _ (by decide +kernel)) ggX9_layWay_X9_findFar
set_option maxRecDepth 20000 in
theorem ggX9_layWay_X9_leads : GoodIn wsX9_layWay wsX9_leads := goodIn_r _ [30, 8, 20, 21, 22, 6, 23, 14, 13, 24, 25, 26, 15, 16, 17, 18, 19, 34, 35, 36, 37, 38, 39, 40, 41, 42, 43, 44, 45, 46, 47, 48, 49, 50, 51, 52, 53, 54, 55, 56, 57, 58, 59, 60, 61, 62, 63, 64, 65] (by decide +kernel) (by decide +kernel)
set_option maxRecDepth 20000 in
theorem gX9_layWay_X9_leads : GoodIn wsX9_layWay (wsV RX9 187 RX9 yX9_leads wsX9_leads) := goodIn_app (goodIn_of _ (by decide +kernel)) ggX9_layWay_X9_leads
set_option maxRecDepth 20000 in
theorem ggX9_layWay_X9_codeOf : GoodIn wsX9_layWay wsX9_codeOf := goodIn_r _ [33] (by decide +kernel) (by decide +kernel)
set_option maxRecDepth 20000 in
theorem gX9_layWay_X9_codeOf : GoodIn wsX9_layWay (va_wsS RX9 194 yX9_codeOf wsX9_codeOf) := goodIn_app (goodIn_of _ (by decide +kernel)) ggX9_layWay_X9_codeOf
set_option maxRecDepth 20000 in
theorem ggX9_layWay_X9_beyond : GoodIn wsX9_layWay wsX9_beyond := goodIn_r _ [23, 14, 13, 24, 25, 6, 26, 15, 16, 17, 18, 19, 34, 35, 36, 37, 38, 39, 40, 41, 42, 43, 44, 45, 46, 47, 48, 49, 50, 51, 52, 53, 54, 55, 56, 57, 58, 59, 60, 61, 62, 63, 64, 65] (by decide +kernel) (by decide +kernel)
set_option maxRecDepth 20000 in
theorem gX9_layWay_X9_beyond : GoodIn wsX9_layWay (wsV RX9 108 RX9 yX9_beyond wsX9_beyond) := goodIn_app (goodIn_of _ (by decide +kernel)) ggX9_layWay_X9_beyond
theorem dX9_layWay_0 : decode cX9_layWay 0 = .ok (.aload_n 0, 1) := by decide +kernel
theorem dX9_layWay_1 : decode cX9_layWay 1 = .ok (.iload_n 2, 1) := by decide +kernel
theorem dX9_layWay_2 : decode cX9_layWay 2 = .ok (.iload_n 3, 1) := by decide +kernel
theorem dX9_layWay_3 : decode cX9_layWay 3 = .ok (.invokevirtual 184, 3) := by decide +kernel
theorem dX9_layWay_6 : decode cX9_layWay 6 = .ok (.iload_n 1, 1) := by decide +kernel
theorem dX9_layWay_7 : decode cX9_layWay 7 = .ok (.istore 4, 2) := by decide +kernel
theorem dX9_layWay_9 : decode cX9_layWay 9 = .ok (.iload 4, 2) := by decide +kernel
theorem dX9_layWay_11 : decode cX9_layWay 11 = .ok (.iload_n 2, 1) := by decide +kernel
theorem dX9_layWay_12 : decode cX9_layWay 12 = .ok (.if_icmp .eq 61, 3) := by decide +kernel
theorem dX9_layWay_15 : decode cX9_layWay 15 = .ok (.iconst 0, 1) := by decide +kernel
theorem dX9_layWay_16 : decode cX9_layWay 16 = .ok (.istore 5, 2) := by decide +kernel
theorem dX9_layWay_18 : decode cX9_layWay 18 = .ok (.aload_n 0, 1) := by decide +kernel
theorem dX9_layWay_19 : decode cX9_layWay 19 = .ok (.iload 4, 2) := by decide +kernel
theorem dX9_layWay_21 : decode cX9_layWay 21 = .ok (.iload 5, 2) := by decide +kernel
theorem dX9_layWay_23 : decode cX9_layWay 23 = .ok (.iload_n 3, 1) := by decide +kernel
theorem dX9_layWay_24 : decode cX9_layWay 24 = .ok (.invokevirtual 187, 3) := by decide +kernel
theorem dX9_layWay_27 : decode cX9_layWay 27 = .ok (.ifCond .ne 9, 3) := by decide +kernel
theorem dX9_layWay_30 : decode cX9_layWay 30 = .ok (.iinc 5 1, 3) := by decide +kernel
theorem dX9_layWay_33 : decode cX9_layWay 33 = .ok (.goto (-15), 3) := by decide +kernel
theorem dX9_layWay_36 : decode cX9_layWay 36 = .ok (.aload_n 0, 1) := by decide +kernel
theorem dX9_layWay_37 : decode cX9_layWay 37 = .ok (.getfield 28, 3) := by decide +kernel
theorem dX9_layWay_40 : decode cX9_layWay 40 = .ok (.aload_n 0, 1) := by decide +kernel
theorem dX9_layWay_41 : decode cX9_layWay 41 = .ok (.getfield 191, 3) := by decide +kernel
theorem dX9_layWay_44 : decode cX9_layWay 44 = .ok (.iload 5, 2) := by decide +kernel
theorem dX9_layWay_46 : decode cX9_layWay 46 = .ok (.invokestatic 194, 3) := by decide +kernel
theorem dX9_layWay_49 : decode cX9_layWay 49 = .ok (.iastore, 1) := by decide +kernel
theorem dX9_layWay_50 : decode cX9_layWay 50 = .ok (.aload_n 0, 1) := by decide +kernel
theorem dX9_layWay_51 : decode cX9_layWay 51 = .ok (.dup, 1) := by decide +kernel
theorem dX9_layWay_52 : decode cX9_layWay 52 = .ok (.getfield 191, 3) := by decide +kernel
theorem dX9_layWay_55 : decode cX9_layWay 55 = .ok (.iconst 1, 1) := by decide +kernel
theorem dX9_layWay_56 : decode cX9_layWay 56 = .ok (.iadd, 1) := by decide +kernel
theorem dX9_layWay_57 : decode cX9_layWay 57 = .ok (.putfield 191, 3) := by decide +kernel
theorem dX9_layWay_60 : decode cX9_layWay 60 = .ok (.aload_n 0, 1) := by decide +kernel
theorem dX9_layWay_61 : decode cX9_layWay 61 = .ok (.iload 4, 2) := by decide +kernel
theorem dX9_layWay_63 : decode cX9_layWay 63 = .ok (.iload 5, 2) := by decide +kernel
theorem dX9_layWay_65 : decode cX9_layWay 65 = .ok (.invokevirtual 108, 3) := by decide +kernel
theorem dX9_layWay_68 : decode cX9_layWay 68 = .ok (.istore 4, 2) := by decide +kernel
theorem dX9_layWay_70 : decode cX9_layWay 70 = .ok (.goto (-61), 3) := by decide +kernel
theorem dX9_layWay_73 : decode cX9_layWay 73 = .ok (.return_, 1) := by decide +kernel
set_option maxRecDepth 20000 in
theorem ggX9_leads_X9_beyond : GoodIn wsX9_leads wsX9_beyond := goodIn_r _ [6, 7, 8, 9, 10, 5, 11, 12, 13, 14, 15, 16, 17, 18, 19, 20, 21, 22, 23, 24, 25, 26, 27, 28, 29, 30, 31, 32, 33, 34, 35, 36, 37, 38, 39, 40, 41, 42, 43, 44, 45, 46, 47, 48] (by decide +kernel) (by decide +kernel)
set_option maxRecDepth 20000 in
theorem gX9_leads_X9_beyond : GoodIn wsX9_leads (wsV RX9 108 RX9 yX9_beyond wsX9_beyond) := goodIn_app (goodIn_of _ (by decide +kernel)) ggX9_leads_X9_beyond
theorem dX9_leads_0 : decode cX9_leads 0 = .ok (.aload_n 0, 1) := by decide +kernel
theorem dX9_leads_1 : decode cX9_leads 1 = .ok (.iload_n 1, 1) := by decide +kernel
theorem dX9_leads_2 : decode cX9_leads 2 = .ok (.iload_n 2, 1) := by decide +kernel
theorem dX9_leads_3 : decode cX9_leads 3 = .ok (.invokevirtual 108, 3) := by decide +kernel
theorem dX9_leads_6 : decode cX9_leads 6 = .ok (.istore 4, 2) := by decide +kernel
theorem dX9_leads_8 : decode cX9_leads 8 = .ok (.iload 4, 2) := by decide +kernel
theorem dX9_leads_10 : decode cX9_leads 10 = .ok (.ifCond .lt 35, 3) := by decide +kernel
theorem dX9_leads_13 : decode cX9_leads 13 = .ok (.iload_n 3, 1) := by decide +kernel
theorem dX9_leads_14 : decode cX9_leads 14 = .ok (.iload 4, 2) := by decide +kernel
theorem dX9_leads_16 : decode cX9_leads 16 = .ok (.ishr, 1) := by decide +kernel
theorem dX9_leads_17 : decode cX9_leads 17 = .ok (.iconst 1, 1) := by decide +kernel
theorem dX9_leads_18 : decode cX9_leads 18 = .ok (.iand, 1) := by decide +kernel
theorem dX9_leads_19 : decode cX9_leads 19 = .ok (.iconst 1, 1) := by decide +kernel
theorem dX9_leads_20 : decode cX9_leads 20 = .ok (.if_icmp .ne 25, 3) := by decide +kernel
theorem dX9_leads_23 : decode cX9_leads 23 = .ok (.aload_n 0, 1) := by decide +kernel
theorem dX9_leads_24 : decode cX9_leads 24 = .ok (.getfield 25, 3) := by decide +kernel
theorem dX9_leads_27 : decode cX9_leads 27 = .ok (.iload 4, 2) := by decide +kernel
theorem dX9_leads_29 : decode cX9_leads 29 = .ok (.iaload, 1) := by decide +kernel
theorem dX9_leads_30 : decode cX9_leads 30 = .ok (.aload_n 0, 1) := by decide +kernel
theorem dX9_leads_31 : decode cX9_leads 31 = .ok (.getfield 25, 3) := by decide +kernel
theorem dX9_leads_34 : decode cX9_leads 34 = .ok (.iload_n 1, 1) := by decide +kernel
theorem dX9_leads_35 : decode cX9_leads 35 = .ok (.iaload, 1) := by decide +kernel
theorem dX9_leads_36 : decode cX9_leads 36 = .ok (.iconst 1, 1) := by decide +kernel
theorem dX9_leads_37 : decode cX9_leads 37 = .ok (.isub, 1) := by decide +kernel
theorem dX9_leads_38 : decode cX9_leads 38 = .ok (.if_icmp .ne 7, 3) := by decide +kernel
theorem dX9_leads_41 : decode cX9_leads 41 = .ok (.iconst 1, 1) := by decide +kernel
theorem dX9_leads_42 : decode cX9_leads 42 = .ok (.goto 4, 3) := by decide +kernel
theorem dX9_leads_45 : decode cX9_leads 45 = .ok (.iconst 0, 1) := by decide +kernel
theorem dX9_leads_46 : decode cX9_leads 46 = .ok (.ireturn, 1) := by decide +kernel
set_option maxRecDepth 20000 in
theorem ggX9_safe_X9_bare : GoodIn wsX9_safe wsX9_bare := goodIn_r _ [10, 11, 12, 13, 9, 14, 15, 16, 17, 18, 19, 20, 21, 22, 23, 24, 25, 26, 27, 28, 29, 30, 31, 32, 33, 34, 35, 36, 37, 38, 39, 40, 41, 42, 43, 44, 45, 46, 47, 48, 49, 65, 66, 67, 68, 69, 70, 71, 72, 73, 74, 75, 76, 77, 78, 79, 80, 81, 82, 83, 84, 85, 86, 87, 88, 89, 90, 91, 92, 93, 94, 95, 96] (by decide +kernel) (by decide +kernel)
set_option maxRecDepth 20000 in
theorem gX9_safe_X9_bare : GoodIn wsX9_safe (wsV RX9 197 RX9 yX9_bare wsX9_bare) := goodIn_app (goodIn_of _ (by decide +kernel)) ggX9_safe_X9_bare
set_option maxRecDepth 20000 in
theorem ggX9_safe_X9_findFar : GoodIn wsX9_safe wsX9_findFar := goodIn_r _ [53, 3, 11, 12, 13, 9, 14, 15, 16, 26, 27, 28, 29, 22, 39, 40, 41, 42, 43, 44, 45, 65, 66, 67, 68, 69, 70, 71, 72, 73, 74, 75, 76, 77, 78, 79, 80, 81, 82, 83, 84, 85, 86, 87, 88, 89, 90, 91, 92, 93, 94, 95, 96] (by decide +kernel) (by decide +kernel)
set_option maxRecDepth 20000 in
theorem gX9_safe_X9_findFar : GoodIn wsX9_safe (wsV RX9 184 RX9 yX9_findFar wsX9_findFar) := goodIn_app (goodIn_of _ (by decide +kernel)) ggX9_safe_X9_findFar
set_option maxRecDepth 20000 in
theorem ggX9_safe_X9_layWay : GoodIn wsX9_safe wsX9_layWay := goodIn_r _ [57, 5, 1, 50, 51, 52, 9, 53, 3, 11, 12, 13, 14, 15, 16, 26, 27, 28, 29, 22, 39, 40, 41, 42, 43, 44, 45, 58, 59, 60, 61, 62, 63, 64, 65, 66, 67, 68, 69, 70, 71, 72, 73, 74, 75, 76, 77, 78, 79, 80, 81, 82, 83, 84, 85, 86, 87, 88, 89, 90, 91, 92, 93, 94, 95, 96] (by decide +kernel) (by decide +kernel)
set_option maxRecDepth 20000 in
theorem gX9_safe_X9_layWay : GoodIn wsX9_safe (wsV RX9 200 RX9 yX9_layWay wsX9_layWay) := goodIn_app (goodIn_of _ (by decide +kernel)) ggX9_safe_X9_layWay
set_option maxRecDepth 20000 in
theorem ggX9_safe_X9_in : GoodIn wsX9_safe wsX9_in := goodIn_r _ [45] (by decide +kernel) (by decide +kernel)
set_option maxRecDepth 20000 in
theorem gX9_safe_X9_in : GoodIn wsX9_safe (va_wsS RX9 74 yX9_in wsX9_in) := goodIn_app (goodIn_of _ (by decide +kernel)) ggX9_safe_X9_in
theorem dX9_safe_0 : decode cX9_safe 0 = .ok (.aload_n 0, 1) := by decide +kernel
theorem dX9_safe_1 : decode cX9_safe 1 = .ok (.invokevirtual 197, 3) := by decide +kernel
theorem dX9_safe_4 : decode cX9_safe 4 = .ok (.istore_n 2, 1) := by decide +kernel
theorem dX9_safe_5 : decode cX9_safe 5 = .ok (.aload_n 0, 1) := by decide +kernel
theorem dX9_safe_6 : decode cX9_safe 6 = .ok (.iconst 0, 1) := by decide +kernel
theorem dX9_safe_7 : decode cX9_safe 7 = .ok (.putfield 191, 3) := by decide +kernel
theorem dX9_safe_10 : decode cX9_safe 10 = .ok (.aload_n 0, 1) := by decide +kernel
theorem dX9_safe_11 : decode cX9_safe 11 = .ok (.aload_n 0, 1) := by decide +kernel
theorem dX9_safe_12 : decode cX9_safe 12 = .ok (.getfield 64, 3) := by decide +kernel
theorem dX9_safe_15 : decode cX9_safe 15 = .ok (.iload_n 2, 1) := by decide +kernel
theorem dX9_safe_16 : decode cX9_safe 16 = .ok (.invokevirtual 184, 3) := by decide +kernel
theorem dX9_safe_19 : decode cX9_safe 19 = .ok (.aload_n 0, 1) := by decide +kernel
theorem dX9_safe_20 : decode cX9_safe 20 = .ok (.getfield 25, 3) := by decide +kernel
theorem dX9_safe_23 : decode cX9_safe 23 = .ok (.aload_n 0, 1) := by decide +kernel
theorem dX9_safe_24 : decode cX9_safe 24 = .ok (.getfield 61, 3) := by decide +kernel
theorem dX9_safe_27 : decode cX9_safe 27 = .ok (.iaload, 1) := by decide +kernel
theorem dX9_safe_28 : decode cX9_safe 28 = .ok (.sipush 1000, 3) := by decide +kernel
theorem dX9_safe_31 : decode cX9_safe 31 = .ok (.if_icmp .ne 6, 3) := by decide +kernel
theorem dX9_safe_34 : decode cX9_safe 34 = .ok (.bipush (-6), 2) := by decide +kernel
theorem dX9_safe_36 : decode cX9_safe 36 = .ok (.ireturn, 1) := by decide +kernel
theorem dX9_safe_37 : decode cX9_safe 37 = .ok (.aload_n 0, 1) := by decide +kernel
theorem dX9_safe_38 : decode cX9_safe 38 = .ok (.aload_n 0, 1) := by decide +kernel
theorem dX9_safe_39 : decode cX9_safe 39 = .ok (.getfield 61, 3) := by decide +kernel
theorem dX9_safe_42 : decode cX9_safe 42 = .ok (.aload_n 0, 1) := by decide +kernel
theorem dX9_safe_43 : decode cX9_safe 43 = .ok (.getfield 64, 3) := by decide +kernel
theorem dX9_safe_46 : decode cX9_safe 46 = .ok (.iload_n 2, 1) := by decide +kernel
theorem dX9_safe_47 : decode cX9_safe 47 = .ok (.invokevirtual 200, 3) := by decide +kernel
theorem dX9_safe_50 : decode cX9_safe 50 = .ok (.iload_n 2, 1) := by decide +kernel
theorem dX9_safe_51 : decode cX9_safe 51 = .ok (.iconst 1, 1) := by decide +kernel
theorem dX9_safe_52 : decode cX9_safe 52 = .ok (.aload_n 0, 1) := by decide +kernel
theorem dX9_safe_53 : decode cX9_safe 53 = .ok (.getfield 61, 3) := by decide +kernel
theorem dX9_safe_56 : decode cX9_safe 56 = .ok (.ishl, 1) := by decide +kernel
theorem dX9_safe_57 : decode cX9_safe 57 = .ok (.ior, 1) := by decide +kernel
theorem dX9_safe_58 : decode cX9_safe 58 = .ok (.istore_n 3, 1) := by decide +kernel
theorem dX9_safe_59 : decode cX9_safe 59 = .ok (.aload_n 0, 1) := by decide +kernel
theorem dX9_safe_60 : decode cX9_safe 60 = .ok (.aload_n 0, 1) := by decide +kernel
theorem dX9_safe_61 : decode cX9_safe 61 = .ok (.getfield 61, 3) := by decide +kernel
theorem dX9_safe_64 : decode cX9_safe 64 = .ok (.iload_n 3, 1) := by decide +kernel
theorem dX9_safe_65 : decode cX9_safe 65 = .ok (.invokevirtual 184, 3) := by decide +kernel
theorem dX9_safe_68 : decode cX9_safe 68 = .ok (.aload_n 0, 1) := by decide +kernel
theorem dX9_safe_69 : decode cX9_safe 69 = .ok (.getfield 25, 3) := by decide +kernel
theorem dX9_safe_72 : decode cX9_safe 72 = .ok (.aload_n 0, 1) := by decide +kernel
theorem dX9_safe_73 : decode cX9_safe 73 = .ok (.getfield 64, 3) := by decide +kernel
theorem dX9_safe_76 : decode cX9_safe 76 = .ok (.iaload, 1) := by decide +kernel
theorem dX9_safe_77 : decode cX9_safe 77 = .ok (.sipush 1000, 3) := by decide +kernel
theorem dX9_safe_80 : decode cX9_safe 80 = .ok (.if_icmp .ne 6, 3) := by decide +kernel
theorem dX9_safe_83 : decode cX9_safe 83 = .ok (.bipush (-6), 2) := by decide +kernel
theorem dX9_safe_85 : decode cX9_safe 85 = .ok (.ireturn, 1) := by decide +kernel
theorem dX9_safe_86 : decode cX9_safe 86 = .ok (.aload_n 0, 1) := by decide +kernel
theorem dX9_safe_87 : decode cX9_safe 87 = .ok (.aload_n 0, 1) := by decide +kernel
theorem dX9_safe_88 : decode cX9_safe 88 = .ok (.getfield 64, 3) := by decide +kernel
theorem dX9_safe_91 : decode cX9_safe 91 = .ok (.aload_n 0, 1) := by decide +kernel
theorem dX9_safe_92 : decode cX9_safe 92 = .ok (.getfield 61, 3) := by decide +kernel
theorem dX9_safe_95 : decode cX9_safe 95 = .ok (.iload_n 3, 1) := by decide +kernel
theorem dX9_safe_96 : decode cX9_safe 96 = .ok (.invokevirtual 200, 3) := by decide +kernel
theorem dX9_safe_99 : decode cX9_safe 99 = .ok (.iload_n 1, 1) := by decide +kernel
theorem dX9_safe_100 : decode cX9_safe 100 = .ok (.iconst (-1), 1) := by decide +kernel
theorem dX9_safe_101 : decode cX9_safe 101 = .ok (.if_icmp .ne 10, 3) := by decide +kernel
theorem dX9_safe_104 : decode cX9_safe 104 = .ok (.aload_n 0, 1) := by decide +kernel
theorem dX9_safe_105 : decode cX9_safe 105 = .ok (.getfield 191, 3) := by decide +kernel
theorem dX9_safe_108 : decode cX9_safe 108 = .ok (.goto 30, 3) := by decide +kernel
theorem dX9_safe_111 : decode cX9_safe 111 = .ok (.iload_n 1, 1) := by decide +kernel
theorem dX9_safe_112 : decode cX9_safe 112 = .ok (.i2l, 1) := by decide +kernel
theorem dX9_safe_113 : decode cX9_safe 113 = .ok (.lconst 0, 1) := by decide +kernel
theorem dX9_safe_114 : decode cX9_safe 114 = .ok (.aload_n 0, 1) := by decide +kernel
theorem dX9_safe_115 : decode cX9_safe 115 = .ok (.getfield 191, 3) := by decide +kernel
theorem dX9_safe_118 : decode cX9_safe 118 = .ok (.iconst 1, 1) := by decide +kernel
theorem dX9_safe_119 : decode cX9_safe 119 = .ok (.isub, 1) := by decide +kernel
theorem dX9_safe_120 : decode cX9_safe 120 = .ok (.i2l, 1) := by decide +kernel
theorem dX9_safe_121 : decode cX9_safe 121 = .ok (.invokestatic 74, 3) := by decide +kernel
theorem dX9_safe_124 : decode cX9_safe 124 = .ok (.ifCond .eq 12, 3) := by decide +kernel
theorem dX9_safe_127 : decode cX9_safe 127 = .ok (.aload_n 0, 1) := by decide +kernel
theorem dX9_safe_128 : decode cX9_safe 128 = .ok (.getfield 28, 3) := by decide +kernel
theorem dX9_safe_131 : decode cX9_safe 131 = .ok (.iload_n 1, 1) := by decide +kernel
theorem dX9_safe_132 : decode cX9_safe 132 = .ok (.iaload, 1) := by decide +kernel
theorem dX9_safe_133 : decode cX9_safe 133 = .ok (.goto 5, 3) := by decide +kernel
theorem dX9_safe_136 : decode cX9_safe 136 = .ok (.bipush (-6), 2) := by decide +kernel
theorem dX9_safe_138 : decode cX9_safe 138 = .ok (.ireturn, 1) := by decide +kernel
set_option maxRecDepth 20000 in
theorem ggX9_floor_X9_cells : GoodIn wsX9_floor wsX9_cells := goodIn_r _ [5, 6, 7, 13, 14, 15, 16, 17, 18, 19, 20, 21, 22, 23, 24, 25, 26, 27, 28, 29, 30, 31, 32, 33, 34, 35, 36, 37, 38, 39, 40, 41, 42, 43, 44] (by decide +kernel) (by decide +kernel)
set_option maxRecDepth 20000 in
theorem gX9_floor_X9_cells : GoodIn wsX9_floor (wsV RX9 70 RX9 yX9_cells wsX9_cells) := goodIn_app (goodIn_of _ (by decide +kernel)) ggX9_floor_X9_cells
set_option maxRecDepth 20000 in
theorem ggX9_floor_X9_isWall : GoodIn wsX9_floor wsX9_isWall := goodIn_r _ [11, 12, 13, 14, 15, 16, 17, 18, 19, 20, 21, 22, 23, 24, 25, 26, 27, 28, 29, 30, 31, 32, 33, 34, 35, 36, 37, 38, 39, 40, 41, 42, 43, 44] (by decide +kernel) (by decide +kernel)
set_option maxRecDepth 20000 in
theorem gX9_floor_X9_isWall : GoodIn wsX9_floor (wsV RX9 101 RX9 yX9_isWall wsX9_isWall) := goodIn_app (goodIn_of _ (by decide +kernel)) ggX9_floor_X9_isWall
theorem dX9_floor_0 : decode cX9_floor 0 = .ok (.iconst 0, 1) := by decide +kernel
theorem dX9_floor_1 : decode cX9_floor 1 = .ok (.istore_n 1, 1) := by decide +kernel
theorem dX9_floor_2 : decode cX9_floor 2 = .ok (.iconst 0, 1) := by decide +kernel
theorem dX9_floor_3 : decode cX9_floor 3 = .ok (.istore_n 2, 1) := by decide +kernel
theorem dX9_floor_4 : decode cX9_floor 4 = .ok (.iload_n 2, 1) := by decide +kernel
theorem dX9_floor_5 : decode cX9_floor 5 = .ok (.aload_n 0, 1) := by decide +kernel
theorem dX9_floor_6 : decode cX9_floor 6 = .ok (.invokevirtual 70, 3) := by decide +kernel
theorem dX9_floor_9 : decode cX9_floor 9 = .ok (.if_icmp .ge 27, 3) := by decide +kernel
theorem dX9_floor_12 : decode cX9_floor 12 = .ok (.iload_n 1, 1) := by decide +kernel
theorem dX9_floor_13 : decode cX9_floor 13 = .ok (.aload_n 0, 1) := by decide +kernel
theorem dX9_floor_14 : decode cX9_floor 14 = .ok (.iload_n 2, 1) := by decide +kernel
theorem dX9_floor_15 : decode cX9_floor 15 = .ok (.invokevirtual 101, 3) := by decide +kernel
theorem dX9_floor_18 : decode cX9_floor 18 = .ok (.ifCond .eq 7, 3) := by decide +kernel
theorem dX9_floor_21 : decode cX9_floor 21 = .ok (.iconst 0, 1) := by decide +kernel
theorem dX9_floor_22 : decode cX9_floor 22 = .ok (.goto 6, 3) := by decide +kernel
theorem dX9_floor_25 : decode cX9_floor 25 = .ok (.iconst 1, 1) := by decide +kernel
theorem dX9_floor_26 : decode cX9_floor 26 = .ok (.iload_n 2, 1) := by decide +kernel
theorem dX9_floor_27 : decode cX9_floor 27 = .ok (.ishl, 1) := by decide +kernel
theorem dX9_floor_28 : decode cX9_floor 28 = .ok (.ior, 1) := by decide +kernel
theorem dX9_floor_29 : decode cX9_floor 29 = .ok (.istore_n 1, 1) := by decide +kernel
theorem dX9_floor_30 : decode cX9_floor 30 = .ok (.iinc 2 1, 3) := by decide +kernel
theorem dX9_floor_33 : decode cX9_floor 33 = .ok (.goto (-29), 3) := by decide +kernel
theorem dX9_floor_36 : decode cX9_floor 36 = .ok (.iload_n 1, 1) := by decide +kernel
theorem dX9_floor_37 : decode cX9_floor 37 = .ok (.ireturn, 1) := by decide +kernel
set_option maxRecDepth 20000 in
theorem ggX9_fewestShown_X9_floor : GoodIn wsX9_fewestShown wsX9_floor := goodIn_r _ [7, 8, 9, 10, 6, 11, 12, 13, 14, 15, 16, 17, 18, 51, 52, 53, 54, 55, 56, 57, 58, 59, 60, 61, 62, 63, 64, 65, 66, 67, 68, 69, 70, 71, 72, 73, 74, 75, 76, 77, 78, 79, 80, 81, 82] (by decide +kernel) (by decide +kernel)
set_option maxRecDepth 20000 in
theorem gX9_fewestShown_X9_floor : GoodIn wsX9_fewestShown (wsV RX9 204 RX9 yX9_floor wsX9_floor) := goodIn_app (goodIn_of _ (by decide +kernel)) ggX9_fewestShown_X9_floor
set_option maxRecDepth 20000 in
theorem ggX9_fewestShown_X9_findFar : GoodIn wsX9_fewestShown wsX9_findFar := goodIn_r _ [22, 1, 8, 9, 10, 6, 11, 12, 13, 14, 15, 16, 17, 18, 23, 24, 25, 26, 27, 28, 29, 51, 52, 53, 54, 55, 56, 57, 58, 59, 60, 61, 62, 63, 64, 65, 66, 67, 68, 69, 70, 71, 72, 73, 74, 75, 76, 77, 78, 79, 80, 81, 82] (by decide +kernel) (by decide +kernel)
set_option maxRecDepth 20000 in
theorem gX9_fewestShown_X9_findFar : GoodIn wsX9_fewestShown (wsV RX9 184 RX9 yX9_findFar wsX9_findFar) := goodIn_app (goodIn_of _ (by decide +kernel)) ggX9_fewestShown_X9_findFar
set_option maxRecDepth 20000 in
theorem ggX9_fewestShown_X9_cells : GoodIn wsX9_fewestShown wsX9_cells := goodIn_r _ [11, 12, 13, 51, 52, 53, 54, 55, 56, 57, 58, 59, 60, 61, 62, 63, 64, 65, 66, 67, 68, 69, 70, 71, 72, 73, 74, 75, 76, 77, 78, 79, 80, 81, 82] (by decide +kernel) (by decide +kernel)
set_option maxRecDepth 20000 in
theorem gX9_fewestShown_X9_cells : GoodIn wsX9_fewestShown (wsV RX9 70 RX9 yX9_cells wsX9_cells) := goodIn_app (goodIn_of _ (by decide +kernel)) ggX9_fewestShown_X9_cells
set_option maxRecDepth 20000 in
theorem ggX9_fewestShown_X9_beyond : GoodIn wsX9_fewestShown wsX9_beyond := goodIn_r _ [26, 13, 12, 27, 28, 6, 29, 14, 15, 16, 17, 18, 51, 52, 53, 54, 55, 56, 57, 58, 59, 60, 61, 62, 63, 64, 65, 66, 67, 68, 69, 70, 71, 72, 73, 74, 75, 76, 77, 78, 79, 80, 81, 82] (by decide +kernel) (by decide +kernel)
set_option maxRecDepth 20000 in
theorem gX9_fewestShown_X9_beyond : GoodIn wsX9_fewestShown (wsV RX9 108 RX9 yX9_beyond wsX9_beyond) := goodIn_app (goodIn_of _ (by decide +kernel)) ggX9_fewestShown_X9_beyond
set_option maxRecDepth 20000 in
theorem ggX9_fewestShown_X9_isBare : GoodIn wsX9_fewestShown wsX9_isBare := goodIn_r _ [33, 34, 18, 35, 36, 37, 14, 15, 16, 6, 17, 38, 39, 40, 41, 42, 43, 44, 45, 46, 23, 24, 25, 26, 13, 12, 27, 28, 29, 47, 48, 49, 50, 51, 52, 53, 54, 55, 56, 57, 58, 59, 60, 61, 62, 63, 64, 65, 66, 67, 68, 69, 70, 71, 72, 73, 74, 75, 76, 77, 78, 79, 80, 81, 82] (by decide +kernel) (by decide +kernel)
set_option maxRecDepth 20000 in
theorem gX9_fewestShown_X9_isBare : GoodIn wsX9_fewestShown (wsV RX9 181 RX9 yX9_isBare wsX9_isBare) := goodIn_app (goodIn_of _ (by decide +kernel)) ggX9_fewestShown_X9_isBare
theorem dX9_fewestShown_0 : decode cX9_fewestShown 0 = .ok (.aload_n 0, 1) := by decide +kernel
theorem dX9_fewestShown_1 : decode cX9_fewestShown 1 = .ok (.iload_n 2, 1) := by decide +kernel
theorem dX9_fewestShown_2 : decode cX9_fewestShown 2 = .ok (.aload_n 0, 1) := by decide +kernel
theorem dX9_fewestShown_3 : decode cX9_fewestShown 3 = .ok (.invokevirtual 204, 3) := by decide +kernel
theorem dX9_fewestShown_6 : decode cX9_fewestShown 6 = .ok (.invokevirtual 184, 3) := by decide +kernel
theorem dX9_fewestShown_9 : decode cX9_fewestShown 9 = .ok (.iconst 0, 1) := by decide +kernel
theorem dX9_fewestShown_10 : decode cX9_fewestShown 10 = .ok (.istore 4, 2) := by decide +kernel
theorem dX9_fewestShown_12 : decode cX9_fewestShown 12 = .ok (.iload 4, 2) := by decide +kernel
theorem dX9_fewestShown_14 : decode cX9_fewestShown 14 = .ok (.bipush 16, 2) := by decide +kernel
theorem dX9_fewestShown_16 : decode cX9_fewestShown 16 = .ok (.if_icmp .ge 190, 3) := by decide +kernel
theorem dX9_fewestShown_19 : decode cX9_fewestShown 19 = .ok (.iconst 0, 1) := by decide +kernel
theorem dX9_fewestShown_20 : decode cX9_fewestShown 20 = .ok (.istore 5, 2) := by decide +kernel
theorem dX9_fewestShown_22 : decode cX9_fewestShown 22 = .ok (.iload 5, 2) := by decide +kernel
theorem dX9_fewestShown_24 : decode cX9_fewestShown 24 = .ok (.aload_n 0, 1) := by decide +kernel
theorem dX9_fewestShown_25 : decode cX9_fewestShown 25 = .ok (.invokevirtual 70, 3) := by decide +kernel
theorem dX9_fewestShown_28 : decode cX9_fewestShown 28 = .ok (.if_icmp .ge 172, 3) := by decide +kernel
theorem dX9_fewestShown_31 : decode cX9_fewestShown 31 = .ok (.aload_n 0, 1) := by decide +kernel
theorem dX9_fewestShown_32 : decode cX9_fewestShown 32 = .ok (.getfield 25, 3) := by decide +kernel
theorem dX9_fewestShown_35 : decode cX9_fewestShown 35 = .ok (.iload 5, 2) := by decide +kernel
theorem dX9_fewestShown_37 : decode cX9_fewestShown 37 = .ok (.iaload, 1) := by decide +kernel
theorem dX9_fewestShown_38 : decode cX9_fewestShown 38 = .ok (.iload 4, 2) := by decide +kernel
theorem dX9_fewestShown_40 : decode cX9_fewestShown 40 = .ok (.if_icmp .ne 154, 3) := by decide +kernel
theorem dX9_fewestShown_43 : decode cX9_fewestShown 43 = .ok (.aload_n 0, 1) := by decide +kernel
theorem dX9_fewestShown_44 : decode cX9_fewestShown 44 = .ok (.getfield 31, 3) := by decide +kernel
theorem dX9_fewestShown_47 : decode cX9_fewestShown 47 = .ok (.iload 5, 2) := by decide +kernel
theorem dX9_fewestShown_49 : decode cX9_fewestShown 49 = .ok (.iload 4, 2) := by decide +kernel
theorem dX9_fewestShown_51 : decode cX9_fewestShown 51 = .ok (.ifCond .ne 7, 3) := by decide +kernel
theorem dX9_fewestShown_54 : decode cX9_fewestShown 54 = .ok (.iconst 0, 1) := by decide +kernel
theorem dX9_fewestShown_55 : decode cX9_fewestShown 55 = .ok (.goto 6, 3) := by decide +kernel
theorem dX9_fewestShown_58 : decode cX9_fewestShown 58 = .ok (.sipush 1000, 3) := by decide +kernel
theorem dX9_fewestShown_61 : decode cX9_fewestShown 61 = .ok (.iastore, 1) := by decide +kernel
theorem dX9_fewestShown_62 : decode cX9_fewestShown 62 = .ok (.iconst 0, 1) := by decide +kernel
theorem dX9_fewestShown_63 : decode cX9_fewestShown 63 = .ok (.istore 6, 2) := by decide +kernel
theorem dX9_fewestShown_65 : decode cX9_fewestShown 65 = .ok (.iload 6, 2) := by decide +kernel
theorem dX9_fewestShown_67 : decode cX9_fewestShown 67 = .ok (.iconst 4, 1) := by decide +kernel
theorem dX9_fewestShown_68 : decode cX9_fewestShown 68 = .ok (.if_icmp .ge 126, 3) := by decide +kernel
theorem dX9_fewestShown_71 : decode cX9_fewestShown 71 = .ok (.iload 4, 2) := by decide +kernel
theorem dX9_fewestShown_73 : decode cX9_fewestShown 73 = .ok (.ifCond .le 121, 3) := by decide +kernel
theorem dX9_fewestShown_76 : decode cX9_fewestShown 76 = .ok (.aload_n 0, 1) := by decide +kernel
theorem dX9_fewestShown_77 : decode cX9_fewestShown 77 = .ok (.iload 5, 2) := by decide +kernel
theorem dX9_fewestShown_79 : decode cX9_fewestShown 79 = .ok (.iload 6, 2) := by decide +kernel
theorem dX9_fewestShown_81 : decode cX9_fewestShown 81 = .ok (.invokevirtual 108, 3) := by decide +kernel
theorem dX9_fewestShown_84 : decode cX9_fewestShown 84 = .ok (.istore 7, 2) := by decide +kernel
theorem dX9_fewestShown_86 : decode cX9_fewestShown 86 = .ok (.iload 7, 2) := by decide +kernel
theorem dX9_fewestShown_88 : decode cX9_fewestShown 88 = .ok (.ifCond .lt 21, 3) := by decide +kernel
theorem dX9_fewestShown_91 : decode cX9_fewestShown 91 = .ok (.aload_n 0, 1) := by decide +kernel
theorem dX9_fewestShown_92 : decode cX9_fewestShown 92 = .ok (.getfield 25, 3) := by decide +kernel
theorem dX9_fewestShown_95 : decode cX9_fewestShown 95 = .ok (.iload 7, 2) := by decide +kernel
theorem dX9_fewestShown_97 : decode cX9_fewestShown 97 = .ok (.iaload, 1) := by decide +kernel
theorem dX9_fewestShown_98 : decode cX9_fewestShown 98 = .ok (.iload 4, 2) := by decide +kernel
theorem dX9_fewestShown_100 : decode cX9_fewestShown 100 = .ok (.iconst 1, 1) := by decide +kernel
theorem dX9_fewestShown_101 : decode cX9_fewestShown 101 = .ok (.isub, 1) := by decide +kernel
theorem dX9_fewestShown_102 : decode cX9_fewestShown 102 = .ok (.if_icmp .ne 7, 3) := by decide +kernel
theorem dX9_fewestShown_105 : decode cX9_fewestShown 105 = .ok (.iconst 1, 1) := by decide +kernel
theorem dX9_fewestShown_106 : decode cX9_fewestShown 106 = .ok (.goto 4, 3) := by decide +kernel
theorem dX9_fewestShown_109 : decode cX9_fewestShown 109 = .ok (.iconst 0, 1) := by decide +kernel
theorem dX9_fewestShown_110 : decode cX9_fewestShown 110 = .ok (.istore 8, 2) := by decide +kernel
theorem dX9_fewestShown_112 : decode cX9_fewestShown 112 = .ok (.iload 8, 2) := by decide +kernel
theorem dX9_fewestShown_114 : decode cX9_fewestShown 114 = .ok (.ifCond .ne 9, 3) := by decide +kernel
theorem dX9_fewestShown_117 : decode cX9_fewestShown 117 = .ok (.sipush 1000, 3) := by decide +kernel
theorem dX9_fewestShown_120 : decode cX9_fewestShown 120 = .ok (.goto 35, 3) := by decide +kernel
theorem dX9_fewestShown_123 : decode cX9_fewestShown 123 = .ok (.aload_n 0, 1) := by decide +kernel
theorem dX9_fewestShown_124 : decode cX9_fewestShown 124 = .ok (.getfield 31, 3) := by decide +kernel
theorem dX9_fewestShown_127 : decode cX9_fewestShown 127 = .ok (.iload 7, 2) := by decide +kernel
theorem dX9_fewestShown_129 : decode cX9_fewestShown 129 = .ok (.iaload, 1) := by decide +kernel
theorem dX9_fewestShown_130 : decode cX9_fewestShown 130 = .ok (.aload_n 0, 1) := by decide +kernel
theorem dX9_fewestShown_131 : decode cX9_fewestShown 131 = .ok (.iload 7, 2) := by decide +kernel
theorem dX9_fewestShown_133 : decode cX9_fewestShown 133 = .ok (.invokevirtual 181, 3) := by decide +kernel
theorem dX9_fewestShown_136 : decode cX9_fewestShown 136 = .ok (.ifCond .ne 13, 3) := by decide +kernel
theorem dX9_fewestShown_139 : decode cX9_fewestShown 139 = .ok (.iload 7, 2) := by decide +kernel
theorem dX9_fewestShown_141 : decode cX9_fewestShown 141 = .ok (.iload_n 2, 1) := by decide +kernel
theorem dX9_fewestShown_142 : decode cX9_fewestShown 142 = .ok (.if_icmp .ne 11, 3) := by decide +kernel
theorem dX9_fewestShown_145 : decode cX9_fewestShown 145 = .ok (.iload_n 3, 1) := by decide +kernel
theorem dX9_fewestShown_146 : decode cX9_fewestShown 146 = .ok (.ifCond .ne 7, 3) := by decide +kernel
theorem dX9_fewestShown_149 : decode cX9_fewestShown 149 = .ok (.iconst 0, 1) := by decide +kernel
theorem dX9_fewestShown_150 : decode cX9_fewestShown 150 = .ok (.goto 4, 3) := by decide +kernel
theorem dX9_fewestShown_153 : decode cX9_fewestShown 153 = .ok (.iconst 1, 1) := by decide +kernel
theorem dX9_fewestShown_154 : decode cX9_fewestShown 154 = .ok (.iadd, 1) := by decide +kernel
theorem dX9_fewestShown_155 : decode cX9_fewestShown 155 = .ok (.istore 9, 2) := by decide +kernel
theorem dX9_fewestShown_157 : decode cX9_fewestShown 157 = .ok (.aload_n 0, 1) := by decide +kernel
theorem dX9_fewestShown_158 : decode cX9_fewestShown 158 = .ok (.getfield 31, 3) := by decide +kernel
theorem dX9_fewestShown_161 : decode cX9_fewestShown 161 = .ok (.iload 5, 2) := by decide +kernel
theorem dX9_fewestShown_163 : decode cX9_fewestShown 163 = .ok (.iload 9, 2) := by decide +kernel
theorem dX9_fewestShown_165 : decode cX9_fewestShown 165 = .ok (.aload_n 0, 1) := by decide +kernel
theorem dX9_fewestShown_166 : decode cX9_fewestShown 166 = .ok (.getfield 31, 3) := by decide +kernel
theorem dX9_fewestShown_169 : decode cX9_fewestShown 169 = .ok (.iload 5, 2) := by decide +kernel
theorem dX9_fewestShown_171 : decode cX9_fewestShown 171 = .ok (.iaload, 1) := by decide +kernel
theorem dX9_fewestShown_172 : decode cX9_fewestShown 172 = .ok (.if_icmp .ge 8, 3) := by decide +kernel
theorem dX9_fewestShown_175 : decode cX9_fewestShown 175 = .ok (.iload 9, 2) := by decide +kernel
theorem dX9_fewestShown_177 : decode cX9_fewestShown 177 = .ok (.goto 10, 3) := by decide +kernel
theorem dX9_fewestShown_180 : decode cX9_fewestShown 180 = .ok (.aload_n 0, 1) := by decide +kernel
theorem dX9_fewestShown_181 : decode cX9_fewestShown 181 = .ok (.getfield 31, 3) := by decide +kernel
theorem dX9_fewestShown_184 : decode cX9_fewestShown 184 = .ok (.iload 5, 2) := by decide +kernel
theorem dX9_fewestShown_186 : decode cX9_fewestShown 186 = .ok (.iaload, 1) := by decide +kernel
theorem dX9_fewestShown_187 : decode cX9_fewestShown 187 = .ok (.iastore, 1) := by decide +kernel
theorem dX9_fewestShown_188 : decode cX9_fewestShown 188 = .ok (.iinc 6 1, 3) := by decide +kernel
theorem dX9_fewestShown_191 : decode cX9_fewestShown 191 = .ok (.goto (-126), 3) := by decide +kernel
theorem dX9_fewestShown_194 : decode cX9_fewestShown 194 = .ok (.iinc 5 1, 3) := by decide +kernel
theorem dX9_fewestShown_197 : decode cX9_fewestShown 197 = .ok (.goto (-175), 3) := by decide +kernel
theorem dX9_fewestShown_200 : decode cX9_fewestShown 200 = .ok (.iinc 4 1, 3) := by decide +kernel
theorem dX9_fewestShown_203 : decode cX9_fewestShown 203 = .ok (.goto (-191), 3) := by decide +kernel
theorem dX9_fewestShown_206 : decode cX9_fewestShown 206 = .ok (.aload_n 0, 1) := by decide +kernel
theorem dX9_fewestShown_207 : decode cX9_fewestShown 207 = .ok (.getfield 31, 3) := by decide +kernel
theorem dX9_fewestShown_210 : decode cX9_fewestShown 210 = .ok (.iload_n 1, 1) := by decide +kernel
theorem dX9_fewestShown_211 : decode cX9_fewestShown 211 = .ok (.iaload, 1) := by decide +kernel
theorem dX9_fewestShown_212 : decode cX9_fewestShown 212 = .ok (.ireturn, 1) := by decide +kernel
set_option maxRecDepth 20000 in
theorem ggX9_least_X9_in : GoodIn wsX9_least wsX9_in := goodIn_r _ [7] (by decide +kernel) (by decide +kernel)
set_option maxRecDepth 20000 in
theorem gX9_least_X9_in : GoodIn wsX9_least (va_wsS RX9 74 yX9_in wsX9_in) := goodIn_app (goodIn_of _ (by decide +kernel)) ggX9_least_X9_in
set_option maxRecDepth 20000 in
theorem ggX9_least_X9_floor : GoodIn wsX9_least wsX9_floor := goodIn_r _ [11, 12, 13, 14, 6, 15, 16, 17, 18, 19, 20, 21, 22, 57, 58, 59, 60, 61, 62, 63, 64, 65, 66, 67, 68, 69, 70, 71, 72, 73, 74, 75, 76, 77, 78, 79, 80, 81, 82, 83, 84, 85, 86, 87, 88] (by decide +kernel) (by decide +kernel)
set_option maxRecDepth 20000 in
theorem gX9_least_X9_floor : GoodIn wsX9_least (wsV RX9 204 RX9 yX9_floor wsX9_floor) := goodIn_app (goodIn_of _ (by decide +kernel)) ggX9_least_X9_floor
set_option maxRecDepth 20000 in
theorem ggX9_least_X9_findFar : GoodIn wsX9_least wsX9_findFar := goodIn_r _ [26, 2, 12, 13, 14, 6, 15, 16, 17, 18, 19, 20, 21, 22, 27, 28, 29, 30, 4, 5, 7, 57, 58, 59, 60, 61, 62, 63, 64, 65, 66, 67, 68, 69, 70, 71, 72, 73, 74, 75, 76, 77, 78, 79, 80, 81, 82, 83, 84, 85, 86, 87, 88] (by decide +kernel) (by decide +kernel)
set_option maxRecDepth 20000 in
theorem gX9_least_X9_findFar : GoodIn wsX9_least (wsV RX9 184 RX9 yX9_findFar wsX9_findFar) := goodIn_app (goodIn_of _ (by decide +kernel)) ggX9_least_X9_findFar
set_option maxRecDepth 20000 in
theorem ggX9_least_X9_fewestShown : GoodIn wsX9_least wsX9_fewestShown := goodIn_r _ [34, 2, 35, 8, 9, 10, 6, 11, 12, 13, 14, 15, 16, 17, 18, 19, 20, 21, 22, 23, 24, 25, 26, 27, 28, 29, 30, 4, 5, 7, 36, 37, 38, 39, 40, 41, 42, 43, 44, 45, 46, 47, 48, 49, 50, 51, 52, 53, 54, 55, 56, 57, 58, 59, 60, 61, 62, 63, 64, 65, 66, 67, 68, 69, 70, 71, 72, 73, 74, 75, 76, 77, 78, 79, 80, 81, 82, 83, 84, 85, 86, 87, 88] (by decide +kernel) (by decide +kernel)
set_option maxRecDepth 20000 in
theorem gX9_least_X9_fewestShown : GoodIn wsX9_least (wsV RX9 207 RX9 yX9_fewestShown wsX9_fewestShown) := goodIn_app (goodIn_of _ (by decide +kernel)) ggX9_least_X9_fewestShown
theorem dX9_least_0 : decode cX9_least 0 = .ok (.iload_n 1, 1) := by decide +kernel
theorem dX9_least_1 : decode cX9_least 1 = .ok (.i2l, 1) := by decide +kernel
theorem dX9_least_2 : decode cX9_least 2 = .ok (.lconst 0, 1) := by decide +kernel
theorem dX9_least_3 : decode cX9_least 3 = .ok (.lconst 1, 1) := by decide +kernel
theorem dX9_least_4 : decode cX9_least 4 = .ok (.invokestatic 74, 3) := by decide +kernel
theorem dX9_least_7 : decode cX9_least 7 = .ok (.ifCond .ne 6, 3) := by decide +kernel
theorem dX9_least_10 : decode cX9_least 10 = .ok (.bipush (-2), 2) := by decide +kernel
theorem dX9_least_12 : decode cX9_least 12 = .ok (.ireturn, 1) := by decide +kernel
theorem dX9_least_13 : decode cX9_least 13 = .ok (.aload_n 0, 1) := by decide +kernel
theorem dX9_least_14 : decode cX9_least 14 = .ok (.aload_n 0, 1) := by decide +kernel
theorem dX9_least_15 : decode cX9_least 15 = .ok (.getfield 64, 3) := by decide +kernel
theorem dX9_least_18 : decode cX9_least 18 = .ok (.aload_n 0, 1) := by decide +kernel
theorem dX9_least_19 : decode cX9_least 19 = .ok (.invokevirtual 204, 3) := by decide +kernel
theorem dX9_least_22 : decode cX9_least 22 = .ok (.invokevirtual 184, 3) := by decide +kernel
theorem dX9_least_25 : decode cX9_least 25 = .ok (.aload_n 0, 1) := by decide +kernel
theorem dX9_least_26 : decode cX9_least 26 = .ok (.getfield 25, 3) := by decide +kernel
theorem dX9_least_29 : decode cX9_least 29 = .ok (.aload_n 0, 1) := by decide +kernel
theorem dX9_least_30 : decode cX9_least 30 = .ok (.getfield 61, 3) := by decide +kernel
theorem dX9_least_33 : decode cX9_least 33 = .ok (.iaload, 1) := by decide +kernel
theorem dX9_least_34 : decode cX9_least 34 = .ok (.istore_n 2, 1) := by decide +kernel
theorem dX9_least_35 : decode cX9_least 35 = .ok (.iload_n 2, 1) := by decide +kernel
theorem dX9_least_36 : decode cX9_least 36 = .ok (.sipush 1000, 3) := by decide +kernel
theorem dX9_least_39 : decode cX9_least 39 = .ok (.if_icmp .ne 6, 3) := by decide +kernel
theorem dX9_least_42 : decode cX9_least 42 = .ok (.bipush (-6), 2) := by decide +kernel
theorem dX9_least_44 : decode cX9_least 44 = .ok (.ireturn, 1) := by decide +kernel
theorem dX9_least_45 : decode cX9_least 45 = .ok (.iload_n 1, 1) := by decide +kernel
theorem dX9_least_46 : decode cX9_least 46 = .ok (.iconst 1, 1) := by decide +kernel
theorem dX9_least_47 : decode cX9_least 47 = .ok (.if_icmp .ne 9, 3) := by decide +kernel
theorem dX9_least_50 : decode cX9_least 50 = .ok (.iconst 2, 1) := by decide +kernel
theorem dX9_least_51 : decode cX9_least 51 = .ok (.iload_n 2, 1) := by decide +kernel
theorem dX9_least_52 : decode cX9_least 52 = .ok (.imul, 1) := by decide +kernel
theorem dX9_least_53 : decode cX9_least 53 = .ok (.goto 30, 3) := by decide +kernel
theorem dX9_least_56 : decode cX9_least 56 = .ok (.aload_n 0, 1) := by decide +kernel
theorem dX9_least_57 : decode cX9_least 57 = .ok (.aload_n 0, 1) := by decide +kernel
theorem dX9_least_58 : decode cX9_least 58 = .ok (.getfield 61, 3) := by decide +kernel
theorem dX9_least_61 : decode cX9_least 61 = .ok (.aload_n 0, 1) := by decide +kernel
theorem dX9_least_62 : decode cX9_least 62 = .ok (.getfield 64, 3) := by decide +kernel
theorem dX9_least_65 : decode cX9_least 65 = .ok (.iconst 1, 1) := by decide +kernel
theorem dX9_least_66 : decode cX9_least 66 = .ok (.invokevirtual 207, 3) := by decide +kernel
theorem dX9_least_69 : decode cX9_least 69 = .ok (.aload_n 0, 1) := by decide +kernel
theorem dX9_least_70 : decode cX9_least 70 = .ok (.aload_n 0, 1) := by decide +kernel
theorem dX9_least_71 : decode cX9_least 71 = .ok (.getfield 64, 3) := by decide +kernel
theorem dX9_least_74 : decode cX9_least 74 = .ok (.aload_n 0, 1) := by decide +kernel
theorem dX9_least_75 : decode cX9_least 75 = .ok (.getfield 61, 3) := by decide +kernel
theorem dX9_least_78 : decode cX9_least 78 = .ok (.iconst 0, 1) := by decide +kernel
theorem dX9_least_79 : decode cX9_least 79 = .ok (.invokevirtual 207, 3) := by decide +kernel
theorem dX9_least_82 : decode cX9_least 82 = .ok (.iadd, 1) := by decide +kernel
theorem dX9_least_83 : decode cX9_least 83 = .ok (.ireturn, 1) := by decide +kernel
set_option maxRecDepth 20000 in
theorem ggX9_flour_X9_in : GoodIn wsX9_flour wsX9_in := goodIn_r _ [7] (by decide +kernel) (by decide +kernel)
set_option maxRecDepth 20000 in
theorem gX9_flour_X9_in : GoodIn wsX9_flour (va_wsS RX9 74 yX9_in wsX9_in) := goodIn_app (goodIn_of _ (by decide +kernel)) ggX9_flour_X9_in
set_option maxRecDepth 20000 in
theorem ggX9_flour_X9_floor : GoodIn wsX9_flour wsX9_floor := goodIn_r _ [11, 12, 13, 14, 6, 15, 16, 17, 18, 19, 20, 21, 22, 34, 35, 36, 37, 38, 39, 40, 41, 42, 43, 44, 45, 46, 47, 48, 49, 50, 51, 52, 53, 54, 55, 56, 57, 58, 59, 60, 61, 62, 63, 64, 65] (by decide +kernel) (by decide +kernel)
set_option maxRecDepth 20000 in
theorem gX9_flour_X9_floor : GoodIn wsX9_flour (wsV RX9 204 RX9 yX9_floor wsX9_floor) := goodIn_app (goodIn_of _ (by decide +kernel)) ggX9_flour_X9_floor
set_option maxRecDepth 20000 in
theorem ggX9_flour_X9_findFar : GoodIn wsX9_flour wsX9_findFar := goodIn_r _ [26, 2, 12, 13, 14, 6, 15, 16, 17, 18, 19, 20, 21, 22, 27, 28, 29, 30, 4, 5, 7, 34, 35, 36, 37, 38, 39, 40, 41, 42, 43, 44, 45, 46, 47, 48, 49, 50, 51, 52, 53, 54, 55, 56, 57, 58, 59, 60, 61, 62, 63, 64, 65] (by decide +kernel) (by decide +kernel)
set_option maxRecDepth 20000 in
theorem gX9_flour_X9_findFar : GoodIn wsX9_flour (wsV RX9 184 RX9 yX9_findFar wsX9_findFar) := goodIn_app (goodIn_of _ (by decide +kernel)) ggX9_flour_X9_findFar
set_option maxRecDepth 20000 in
theorem ggX9_flour_X9_ones : GoodIn wsX9_flour wsX9_ones := goodIn_r _ [33] (by decide +kernel) (by decide +kernel)
set_option maxRecDepth 20000 in
theorem gX9_flour_X9_ones : GoodIn wsX9_flour (va_wsS RX9 211 yX9_ones wsX9_ones) := goodIn_app (goodIn_of _ (by decide +kernel)) ggX9_flour_X9_ones
theorem dX9_flour_0 : decode cX9_flour 0 = .ok (.iload_n 1, 1) := by decide +kernel
theorem dX9_flour_1 : decode cX9_flour 1 = .ok (.i2l, 1) := by decide +kernel
theorem dX9_flour_2 : decode cX9_flour 2 = .ok (.lconst 0, 1) := by decide +kernel
theorem dX9_flour_3 : decode cX9_flour 3 = .ok (.lconst 1, 1) := by decide +kernel
theorem dX9_flour_4 : decode cX9_flour 4 = .ok (.invokestatic 74, 3) := by decide +kernel
theorem dX9_flour_7 : decode cX9_flour 7 = .ok (.ifCond .ne 6, 3) := by decide +kernel
theorem dX9_flour_10 : decode cX9_flour 10 = .ok (.bipush (-2), 2) := by decide +kernel
theorem dX9_flour_12 : decode cX9_flour 12 = .ok (.ireturn, 1) := by decide +kernel
theorem dX9_flour_13 : decode cX9_flour 13 = .ok (.aload_n 0, 1) := by decide +kernel
theorem dX9_flour_14 : decode cX9_flour 14 = .ok (.invokevirtual 204, 3) := by decide +kernel
theorem dX9_flour_17 : decode cX9_flour 17 = .ok (.istore_n 2, 1) := by decide +kernel
theorem dX9_flour_18 : decode cX9_flour 18 = .ok (.aload_n 0, 1) := by decide +kernel
theorem dX9_flour_19 : decode cX9_flour 19 = .ok (.aload_n 0, 1) := by decide +kernel
theorem dX9_flour_20 : decode cX9_flour 20 = .ok (.getfield 64, 3) := by decide +kernel
theorem dX9_flour_23 : decode cX9_flour 23 = .ok (.iload_n 2, 1) := by decide +kernel
theorem dX9_flour_24 : decode cX9_flour 24 = .ok (.invokevirtual 184, 3) := by decide +kernel
theorem dX9_flour_27 : decode cX9_flour 27 = .ok (.aload_n 0, 1) := by decide +kernel
theorem dX9_flour_28 : decode cX9_flour 28 = .ok (.getfield 25, 3) := by decide +kernel
theorem dX9_flour_31 : decode cX9_flour 31 = .ok (.aload_n 0, 1) := by decide +kernel
theorem dX9_flour_32 : decode cX9_flour 32 = .ok (.getfield 61, 3) := by decide +kernel
theorem dX9_flour_35 : decode cX9_flour 35 = .ok (.iaload, 1) := by decide +kernel
theorem dX9_flour_36 : decode cX9_flour 36 = .ok (.iconst 2, 1) := by decide +kernel
theorem dX9_flour_37 : decode cX9_flour 37 = .ok (.if_icmp .ge 6, 3) := by decide +kernel
theorem dX9_flour_40 : decode cX9_flour 40 = .ok (.bipush (-6), 2) := by decide +kernel
theorem dX9_flour_42 : decode cX9_flour 42 = .ok (.ireturn, 1) := by decide +kernel
theorem dX9_flour_43 : decode cX9_flour 43 = .ok (.iload_n 2, 1) := by decide +kernel
theorem dX9_flour_44 : decode cX9_flour 44 = .ok (.iconst 1, 1) := by decide +kernel
theorem dX9_flour_45 : decode cX9_flour 45 = .ok (.aload_n 0, 1) := by decide +kernel
theorem dX9_flour_46 : decode cX9_flour 46 = .ok (.getfield 61, 3) := by decide +kernel
theorem dX9_flour_49 : decode cX9_flour 49 = .ok (.ishl, 1) := by decide +kernel
theorem dX9_flour_50 : decode cX9_flour 50 = .ok (.iconst (-1), 1) := by decide +kernel
theorem dX9_flour_51 : decode cX9_flour 51 = .ok (.ixor, 1) := by decide +kernel
theorem dX9_flour_52 : decode cX9_flour 52 = .ok (.iand, 1) := by decide +kernel
theorem dX9_flour_53 : decode cX9_flour 53 = .ok (.iconst 1, 1) := by decide +kernel
theorem dX9_flour_54 : decode cX9_flour 54 = .ok (.aload_n 0, 1) := by decide +kernel
theorem dX9_flour_55 : decode cX9_flour 55 = .ok (.getfield 64, 3) := by decide +kernel
theorem dX9_flour_58 : decode cX9_flour 58 = .ok (.ishl, 1) := by decide +kernel
theorem dX9_flour_59 : decode cX9_flour 59 = .ok (.iconst (-1), 1) := by decide +kernel
theorem dX9_flour_60 : decode cX9_flour 60 = .ok (.ixor, 1) := by decide +kernel
theorem dX9_flour_61 : decode cX9_flour 61 = .ok (.iand, 1) := by decide +kernel
theorem dX9_flour_62 : decode cX9_flour 62 = .ok (.istore_n 3, 1) := by decide +kernel
theorem dX9_flour_63 : decode cX9_flour 63 = .ok (.bipush (-6), 2) := by decide +kernel
theorem dX9_flour_65 : decode cX9_flour 65 = .ok (.istore 4, 2) := by decide +kernel
theorem dX9_flour_67 : decode cX9_flour 67 = .ok (.iconst 0, 1) := by decide +kernel
theorem dX9_flour_68 : decode cX9_flour 68 = .ok (.istore 5, 2) := by decide +kernel
theorem dX9_flour_70 : decode cX9_flour 70 = .ok (.iload 5, 2) := by decide +kernel
theorem dX9_flour_72 : decode cX9_flour 72 = .ok (.iload_n 3, 1) := by decide +kernel
theorem dX9_flour_73 : decode cX9_flour 73 = .ok (.if_icmp .gt 74, 3) := by decide +kernel
theorem dX9_flour_76 : decode cX9_flour 76 = .ok (.iload 5, 2) := by decide +kernel
theorem dX9_flour_78 : decode cX9_flour 78 = .ok (.iload_n 3, 1) := by decide +kernel
theorem dX9_flour_79 : decode cX9_flour 79 = .ok (.iconst (-1), 1) := by decide +kernel
theorem dX9_flour_80 : decode cX9_flour 80 = .ok (.ixor, 1) := by decide +kernel
theorem dX9_flour_81 : decode cX9_flour 81 = .ok (.iand, 1) := by decide +kernel
theorem dX9_flour_82 : decode cX9_flour 82 = .ok (.ifCond .ne 59, 3) := by decide +kernel
theorem dX9_flour_85 : decode cX9_flour 85 = .ok (.iload 4, 2) := by decide +kernel
theorem dX9_flour_87 : decode cX9_flour 87 = .ok (.ifCond .lt 16, 3) := by decide +kernel
theorem dX9_flour_90 : decode cX9_flour 90 = .ok (.iload 5, 2) := by decide +kernel
theorem dX9_flour_92 : decode cX9_flour 92 = .ok (.invokestatic 211, 3) := by decide +kernel
theorem dX9_flour_95 : decode cX9_flour 95 = .ok (.iload 4, 2) := by decide +kernel
theorem dX9_flour_97 : decode cX9_flour 97 = .ok (.invokestatic 211, 3) := by decide +kernel
theorem dX9_flour_100 : decode cX9_flour 100 = .ok (.if_icmp .ge 41, 3) := by decide +kernel
theorem dX9_flour_103 : decode cX9_flour 103 = .ok (.aload_n 0, 1) := by decide +kernel
theorem dX9_flour_104 : decode cX9_flour 104 = .ok (.aload_n 0, 1) := by decide +kernel
theorem dX9_flour_105 : decode cX9_flour 105 = .ok (.getfield 64, 3) := by decide +kernel
theorem dX9_flour_108 : decode cX9_flour 108 = .ok (.iload_n 2, 1) := by decide +kernel
theorem dX9_flour_109 : decode cX9_flour 109 = .ok (.iload 5, 2) := by decide +kernel
theorem dX9_flour_111 : decode cX9_flour 111 = .ok (.iconst (-1), 1) := by decide +kernel
theorem dX9_flour_112 : decode cX9_flour 112 = .ok (.ixor, 1) := by decide +kernel
theorem dX9_flour_113 : decode cX9_flour 113 = .ok (.iand, 1) := by decide +kernel
theorem dX9_flour_114 : decode cX9_flour 114 = .ok (.invokevirtual 184, 3) := by decide +kernel
theorem dX9_flour_117 : decode cX9_flour 117 = .ok (.aload_n 0, 1) := by decide +kernel
theorem dX9_flour_118 : decode cX9_flour 118 = .ok (.getfield 25, 3) := by decide +kernel
theorem dX9_flour_121 : decode cX9_flour 121 = .ok (.aload_n 0, 1) := by decide +kernel
theorem dX9_flour_122 : decode cX9_flour 122 = .ok (.getfield 61, 3) := by decide +kernel
theorem dX9_flour_125 : decode cX9_flour 125 = .ok (.iaload, 1) := by decide +kernel
theorem dX9_flour_126 : decode cX9_flour 126 = .ok (.sipush 1000, 3) := by decide +kernel
theorem dX9_flour_129 : decode cX9_flour 129 = .ok (.if_icmp .ne 8, 3) := by decide +kernel
theorem dX9_flour_132 : decode cX9_flour 132 = .ok (.iload 5, 2) := by decide +kernel
theorem dX9_flour_134 : decode cX9_flour 134 = .ok (.goto 5, 3) := by decide +kernel
theorem dX9_flour_137 : decode cX9_flour 137 = .ok (.iload 4, 2) := by decide +kernel
theorem dX9_flour_139 : decode cX9_flour 139 = .ok (.istore 4, 2) := by decide +kernel
theorem dX9_flour_141 : decode cX9_flour 141 = .ok (.iinc 5 1, 3) := by decide +kernel
theorem dX9_flour_144 : decode cX9_flour 144 = .ok (.goto (-74), 3) := by decide +kernel
theorem dX9_flour_147 : decode cX9_flour 147 = .ok (.iload_n 1, 1) := by decide +kernel
theorem dX9_flour_148 : decode cX9_flour 148 = .ok (.ifCond .ne 11, 3) := by decide +kernel
theorem dX9_flour_151 : decode cX9_flour 151 = .ok (.iload 4, 2) := by decide +kernel
theorem dX9_flour_153 : decode cX9_flour 153 = .ok (.invokestatic 211, 3) := by decide +kernel
theorem dX9_flour_156 : decode cX9_flour 156 = .ok (.goto 5, 3) := by decide +kernel
theorem dX9_flour_159 : decode cX9_flour 159 = .ok (.iload 4, 2) := by decide +kernel
theorem dX9_flour_161 : decode cX9_flour 161 = .ok (.ireturn, 1) := by decide +kernel
set_option maxRecDepth 20000 in
theorem ggX9_post_X9_in : GoodIn wsX9_post wsX9_in := goodIn_r _ [8] (by decide +kernel) (by decide +kernel)
set_option maxRecDepth 20000 in
theorem gX9_post_X9_in : GoodIn wsX9_post (va_wsS RX9 74 yX9_in wsX9_in) := goodIn_app (goodIn_of _ (by decide +kernel)) ggX9_post_X9_in
set_option maxRecDepth 20000 in
theorem ggX9_post_X9_cells : GoodIn wsX9_post wsX9_cells := goodIn_r _ [12, 13, 14, 48, 49, 50, 51, 52, 53, 54, 55, 56, 57, 58, 59, 60, 61, 62, 63, 64, 65, 66, 67, 68, 69, 70, 71, 72, 73, 74, 75, 76, 77, 78, 79] (by decide +kernel) (by decide +kernel)
set_option maxRecDepth 20000 in
theorem gX9_post_X9_cells : GoodIn wsX9_post (wsV RX9 70 RX9 yX9_cells wsX9_cells) := goodIn_app (goodIn_of _ (by decide +kernel)) ggX9_post_X9_cells
set_option maxRecDepth 20000 in
theorem ggX9_post_X9_isWall : GoodIn wsX9_post wsX9_isWall := goodIn_r _ [18, 19, 48, 49, 50, 51, 52, 53, 54, 55, 56, 57, 58, 59, 60, 61, 62, 63, 64, 65, 66, 67, 68, 69, 70, 71, 72, 73, 74, 75, 76, 77, 78, 79] (by decide +kernel) (by decide +kernel)
set_option maxRecDepth 20000 in
theorem gX9_post_X9_isWall : GoodIn wsX9_post (wsV RX9 101 RX9 yX9_isWall wsX9_isWall) := goodIn_app (goodIn_of _ (by decide +kernel)) ggX9_post_X9_isWall
set_option maxRecDepth 20000 in
theorem ggX9_post_X9_bare : GoodIn wsX9_post wsX9_bare := goodIn_r _ [23, 9, 10, 11, 7, 12, 13, 14, 24, 25, 26, 27, 1, 19, 3, 28, 2, 15, 16, 17, 18, 29, 30, 31, 32, 4, 33, 34, 35, 36, 37, 38, 39, 40, 5, 6, 8, 41, 42, 43, 44, 48, 49, 50, 51, 52, 53, 54, 55, 56, 57, 58, 59, 60, 61, 62, 63, 64, 65, 66, 67, 68, 69, 70, 71, 72, 73, 74, 75, 76, 77, 78, 79] (by decide +kernel) (by decide +kernel)
set_option maxRecDepth 20000 in
theorem gX9_post_X9_bare : GoodIn wsX9_post (wsV RX9 197 RX9 yX9_bare wsX9_bare) := goodIn_app (goodIn_of _ (by decide +kernel)) ggX9_post_X9_bare
set_option maxRecDepth 20000 in
theorem ggX9_post_X9_ones : GoodIn wsX9_post wsX9_ones := goodIn_r _ [47] (by decide +kernel) (by decide +kernel)
set_option maxRecDepth 20000 in
theorem gX9_post_X9_ones : GoodIn wsX9_post (va_wsS RX9 211 yX9_ones wsX9_ones) := goodIn_app (goodIn_of _ (by decide +kernel)) ggX9_post_X9_ones
theorem dX9_post_0 : decode cX9_post 0 = .ok (.iload_n 1, 1) := by decide +kernel
theorem dX9_post_1 : decode cX9_post 1 = .ok (.i2l, 1) := by decide +kernel
theorem dX9_post_2 : decode cX9_post 2 = .ok (.lconst 0, 1) := by decide +kernel
theorem dX9_post_3 : decode cX9_post 3 = .ok (.lconst 1, 1) := by decide +kernel
theorem dX9_post_4 : decode cX9_post 4 = .ok (.invokestatic 74, 3) := by decide +kernel
theorem dX9_post_7 : decode cX9_post 7 = .ok (.ifCond .ne 6, 3) := by decide +kernel
theorem dX9_post_10 : decode cX9_post 10 = .ok (.bipush (-2), 2) := by decide +kernel
theorem dX9_post_12 : decode cX9_post 12 = .ok (.ireturn, 1) := by decide +kernel
theorem dX9_post_13 : decode cX9_post 13 = .ok (.aload_n 0, 1) := by decide +kernel
theorem dX9_post_14 : decode cX9_post 14 = .ok (.getfield 67, 3) := by decide +kernel
theorem dX9_post_17 : decode cX9_post 17 = .ok (.iconst 4, 1) := by decide +kernel
theorem dX9_post_18 : decode cX9_post 18 = .ok (.if_icmp .ne 6, 3) := by decide +kernel
theorem dX9_post_21 : decode cX9_post 21 = .ok (.bipush (-4), 2) := by decide +kernel
theorem dX9_post_23 : decode cX9_post 23 = .ok (.ireturn, 1) := by decide +kernel
theorem dX9_post_24 : decode cX9_post 24 = .ok (.bipush (-6), 2) := by decide +kernel
theorem dX9_post_26 : decode cX9_post 26 = .ok (.istore_n 2, 1) := by decide +kernel
theorem dX9_post_27 : decode cX9_post 27 = .ok (.sipush 1000, 3) := by decide +kernel
theorem dX9_post_30 : decode cX9_post 30 = .ok (.istore_n 3, 1) := by decide +kernel
theorem dX9_post_31 : decode cX9_post 31 = .ok (.aload_n 0, 1) := by decide +kernel
theorem dX9_post_32 : decode cX9_post 32 = .ok (.dup, 1) := by decide +kernel
theorem dX9_post_33 : decode cX9_post 33 = .ok (.getfield 67, 3) := by decide +kernel
theorem dX9_post_36 : decode cX9_post 36 = .ok (.iconst 1, 1) := by decide +kernel
theorem dX9_post_37 : decode cX9_post 37 = .ok (.iadd, 1) := by decide +kernel
theorem dX9_post_38 : decode cX9_post 38 = .ok (.putfield 67, 3) := by decide +kernel
theorem dX9_post_41 : decode cX9_post 41 = .ok (.aload_n 0, 1) := by decide +kernel
theorem dX9_post_42 : decode cX9_post 42 = .ok (.getfield 19, 3) := by decide +kernel
theorem dX9_post_45 : decode cX9_post 45 = .ok (.aload_n 0, 1) := by decide +kernel
theorem dX9_post_46 : decode cX9_post 46 = .ok (.getfield 67, 3) := by decide +kernel
theorem dX9_post_49 : decode cX9_post 49 = .ok (.iconst 1, 1) := by decide +kernel
theorem dX9_post_50 : decode cX9_post 50 = .ok (.isub, 1) := by decide +kernel
theorem dX9_post_51 : decode cX9_post 51 = .ok (.iconst 0, 1) := by decide +kernel
theorem dX9_post_52 : decode cX9_post 52 = .ok (.iastore, 1) := by decide +kernel
theorem dX9_post_53 : decode cX9_post 53 = .ok (.iconst 0, 1) := by decide +kernel
theorem dX9_post_54 : decode cX9_post 54 = .ok (.istore 4, 2) := by decide +kernel
theorem dX9_post_56 : decode cX9_post 56 = .ok (.iload 4, 2) := by decide +kernel
theorem dX9_post_58 : decode cX9_post 58 = .ok (.iconst 4, 1) := by decide +kernel
theorem dX9_post_59 : decode cX9_post 59 = .ok (.aload_n 0, 1) := by decide +kernel
theorem dX9_post_60 : decode cX9_post 60 = .ok (.invokevirtual 70, 3) := by decide +kernel
theorem dX9_post_63 : decode cX9_post 63 = .ok (.imul, 1) := by decide +kernel
theorem dX9_post_64 : decode cX9_post 64 = .ok (.if_icmp .ge 85, 3) := by decide +kernel
theorem dX9_post_67 : decode cX9_post 67 = .ok (.aload_n 0, 1) := by decide +kernel
theorem dX9_post_68 : decode cX9_post 68 = .ok (.iload 4, 2) := by decide +kernel
theorem dX9_post_70 : decode cX9_post 70 = .ok (.iconst 4, 1) := by decide +kernel
theorem dX9_post_71 : decode cX9_post 71 = .ok (.idiv, 1) := by decide +kernel
theorem dX9_post_72 : decode cX9_post 72 = .ok (.invokevirtual 101, 3) := by decide +kernel
theorem dX9_post_75 : decode cX9_post 75 = .ok (.ifCond .ne 68, 3) := by decide +kernel
theorem dX9_post_78 : decode cX9_post 78 = .ok (.aload_n 0, 1) := by decide +kernel
theorem dX9_post_79 : decode cX9_post 79 = .ok (.getfield 13, 3) := by decide +kernel
theorem dX9_post_82 : decode cX9_post 82 = .ok (.aload_n 0, 1) := by decide +kernel
theorem dX9_post_83 : decode cX9_post 83 = .ok (.getfield 67, 3) := by decide +kernel
theorem dX9_post_86 : decode cX9_post 86 = .ok (.iconst 1, 1) := by decide +kernel
theorem dX9_post_87 : decode cX9_post 87 = .ok (.isub, 1) := by decide +kernel
theorem dX9_post_88 : decode cX9_post 88 = .ok (.iload 4, 2) := by decide +kernel
theorem dX9_post_90 : decode cX9_post 90 = .ok (.iconst 4, 1) := by decide +kernel
theorem dX9_post_91 : decode cX9_post 91 = .ok (.idiv, 1) := by decide +kernel
theorem dX9_post_92 : decode cX9_post 92 = .ok (.iastore, 1) := by decide +kernel
theorem dX9_post_93 : decode cX9_post 93 = .ok (.aload_n 0, 1) := by decide +kernel
theorem dX9_post_94 : decode cX9_post 94 = .ok (.getfield 16, 3) := by decide +kernel
theorem dX9_post_97 : decode cX9_post 97 = .ok (.aload_n 0, 1) := by decide +kernel
theorem dX9_post_98 : decode cX9_post 98 = .ok (.getfield 67, 3) := by decide +kernel
theorem dX9_post_101 : decode cX9_post 101 = .ok (.iconst 1, 1) := by decide +kernel
theorem dX9_post_102 : decode cX9_post 102 = .ok (.isub, 1) := by decide +kernel
theorem dX9_post_103 : decode cX9_post 103 = .ok (.iload 4, 2) := by decide +kernel
theorem dX9_post_105 : decode cX9_post 105 = .ok (.iconst 4, 1) := by decide +kernel
theorem dX9_post_106 : decode cX9_post 106 = .ok (.irem, 1) := by decide +kernel
theorem dX9_post_107 : decode cX9_post 107 = .ok (.iastore, 1) := by decide +kernel
theorem dX9_post_108 : decode cX9_post 108 = .ok (.aload_n 0, 1) := by decide +kernel
theorem dX9_post_109 : decode cX9_post 109 = .ok (.invokevirtual 197, 3) := by decide +kernel
theorem dX9_post_112 : decode cX9_post 112 = .ok (.invokestatic 211, 3) := by decide +kernel
theorem dX9_post_115 : decode cX9_post 115 = .ok (.istore 5, 2) := by decide +kernel
theorem dX9_post_117 : decode cX9_post 117 = .ok (.iload 5, 2) := by decide +kernel
theorem dX9_post_119 : decode cX9_post 119 = .ok (.iload_n 3, 1) := by decide +kernel
theorem dX9_post_120 : decode cX9_post 120 = .ok (.if_icmp .ge 8, 3) := by decide +kernel
theorem dX9_post_123 : decode cX9_post 123 = .ok (.iload 4, 2) := by decide +kernel
theorem dX9_post_125 : decode cX9_post 125 = .ok (.goto 4, 3) := by decide +kernel
theorem dX9_post_128 : decode cX9_post 128 = .ok (.iload_n 2, 1) := by decide +kernel
theorem dX9_post_129 : decode cX9_post 129 = .ok (.istore_n 2, 1) := by decide +kernel
theorem dX9_post_130 : decode cX9_post 130 = .ok (.iload 5, 2) := by decide +kernel
theorem dX9_post_132 : decode cX9_post 132 = .ok (.iload_n 3, 1) := by decide +kernel
theorem dX9_post_133 : decode cX9_post 133 = .ok (.if_icmp .ge 8, 3) := by decide +kernel
theorem dX9_post_136 : decode cX9_post 136 = .ok (.iload 5, 2) := by decide +kernel
theorem dX9_post_138 : decode cX9_post 138 = .ok (.goto 4, 3) := by decide +kernel
theorem dX9_post_141 : decode cX9_post 141 = .ok (.iload_n 3, 1) := by decide +kernel
theorem dX9_post_142 : decode cX9_post 142 = .ok (.istore_n 3, 1) := by decide +kernel
theorem dX9_post_143 : decode cX9_post 143 = .ok (.iinc 4 1, 3) := by decide +kernel
theorem dX9_post_146 : decode cX9_post 146 = .ok (.goto (-90), 3) := by decide +kernel
theorem dX9_post_149 : decode cX9_post 149 = .ok (.aload_n 0, 1) := by decide +kernel
theorem dX9_post_150 : decode cX9_post 150 = .ok (.dup, 1) := by decide +kernel
theorem dX9_post_151 : decode cX9_post 151 = .ok (.getfield 67, 3) := by decide +kernel
theorem dX9_post_154 : decode cX9_post 154 = .ok (.iconst 1, 1) := by decide +kernel
theorem dX9_post_155 : decode cX9_post 155 = .ok (.isub, 1) := by decide +kernel
theorem dX9_post_156 : decode cX9_post 156 = .ok (.putfield 67, 3) := by decide +kernel
theorem dX9_post_159 : decode cX9_post 159 = .ok (.iload_n 1, 1) := by decide +kernel
theorem dX9_post_160 : decode cX9_post 160 = .ok (.ifCond .ne 7, 3) := by decide +kernel
theorem dX9_post_163 : decode cX9_post 163 = .ok (.iload_n 2, 1) := by decide +kernel
theorem dX9_post_164 : decode cX9_post 164 = .ok (.goto 4, 3) := by decide +kernel
theorem dX9_post_167 : decode cX9_post 167 = .ok (.iload_n 3, 1) := by decide +kernel
theorem dX9_post_168 : decode cX9_post 168 = .ok (.ireturn, 1) := by decide +kernel
theorem dX9_fives_0 : decode cX9_fives 0 = .ok (.iconst 1, 1) := by decide +kernel
theorem dX9_fives_1 : decode cX9_fives 1 = .ok (.istore_n 1, 1) := by decide +kernel
theorem dX9_fives_2 : decode cX9_fives 2 = .ok (.iconst 0, 1) := by decide +kernel
theorem dX9_fives_3 : decode cX9_fives 3 = .ok (.istore_n 2, 1) := by decide +kernel
theorem dX9_fives_4 : decode cX9_fives 4 = .ok (.iload_n 2, 1) := by decide +kernel
theorem dX9_fives_5 : decode cX9_fives 5 = .ok (.iload_n 0, 1) := by decide +kernel
theorem dX9_fives_6 : decode cX9_fives 6 = .ok (.if_icmp .ge 13, 3) := by decide +kernel
theorem dX9_fives_9 : decode cX9_fives 9 = .ok (.iload_n 1, 1) := by decide +kernel
theorem dX9_fives_10 : decode cX9_fives 10 = .ok (.iconst 5, 1) := by decide +kernel
theorem dX9_fives_11 : decode cX9_fives 11 = .ok (.imul, 1) := by decide +kernel
theorem dX9_fives_12 : decode cX9_fives 12 = .ok (.istore_n 1, 1) := by decide +kernel
theorem dX9_fives_13 : decode cX9_fives 13 = .ok (.iinc 2 1, 3) := by decide +kernel
theorem dX9_fives_16 : decode cX9_fives 16 = .ok (.goto (-12), 3) := by decide +kernel
theorem dX9_fives_19 : decode cX9_fives 19 = .ok (.iload_n 1, 1) := by decide +kernel
theorem dX9_fives_20 : decode cX9_fives 20 = .ok (.ireturn, 1) := by decide +kernel
set_option maxRecDepth 20000 in
theorem ggX9_meet_X9_in : GoodIn wsX9_meet wsX9_in := goodIn_r _ [9] (by decide +kernel) (by decide +kernel)
set_option maxRecDepth 20000 in
theorem gX9_meet_X9_in : GoodIn wsX9_meet (va_wsS RX9 74 yX9_in wsX9_in) := goodIn_app (goodIn_of _ (by decide +kernel)) ggX9_meet_X9_in
set_option maxRecDepth 20000 in
theorem ggX9_meet_X9_fives : GoodIn wsX9_meet wsX9_fives := goodIn_r _ [12] (by decide +kernel) (by decide +kernel)
set_option maxRecDepth 20000 in
theorem gX9_meet_X9_fives : GoodIn wsX9_meet (va_wsS RX9 216 yX9_fives wsX9_fives) := goodIn_app (goodIn_of _ (by decide +kernel)) ggX9_meet_X9_fives
set_option maxRecDepth 20000 in
theorem ggX9_meet_X9_refusal : GoodIn wsX9_meet wsX9_refusal := goodIn_r _ [16, 17, 18, 19, 20, 8, 21, 3, 5, 6, 7, 9, 22, 23, 24, 25, 26, 27, 28, 29, 30, 31, 32, 33, 34, 35, 36, 37, 38, 39, 40, 41, 42, 43, 44, 45, 46, 47, 48, 49, 50, 51, 52, 53, 54, 4, 55, 56, 57, 58, 59, 60, 61, 62, 63, 64, 65, 66, 67, 68, 69, 70, 71, 72, 73, 74, 75, 76, 77, 78, 79, 80, 81, 82, 83, 84, 85, 86, 87, 88, 89, 90, 91, 92, 93, 94, 95, 96, 97, 98, 99, 100, 101, 102, 103, 104, 105, 106, 107, 108, 109, 110, 111, 112, 113, 114, 115, 116, 117, 118, 119, 120, 121, 122, 123, 124, 125, 126, 127] (by decide +kernel) (by decide +kernel)
set_option maxRecDepth 20000 in
theorem gX9_meet_X9_refusal : GoodIn wsX9_meet (wsV RX9 178 RX9 yX9_refusal wsX9_refusal) := goodIn_app (goodIn_of _ (by decide +kernel)) ggX9_meet_X9_refusal
set_option maxRecDepth 20000 in
theorem ggX9_meet_X9_begin : GoodIn wsX9_meet wsX9_begin := goodIn_r _ [46, 47, 48, 49, 50, 51, 52, 53, 8, 54, 4, 55, 96, 97, 98, 99, 100, 101, 102, 103, 104, 105, 106, 107, 108, 109, 110, 111, 112, 113, 114, 115, 116, 117, 118, 119, 120, 121, 122, 123, 124, 125, 126, 127] (by decide +kernel) (by decide +kernel)
set_option maxRecDepth 20000 in
theorem gX9_meet_X9_begin : GoodIn wsX9_meet (wsV RX9 142 RX9 yX9_begin wsX9_begin) := goodIn_app (goodIn_of _ (by decide +kernel)) ggX9_meet_X9_begin
set_option maxRecDepth 20000 in
theorem ggX9_meet_X9_wayOf : GoodIn wsX9_meet wsX9_wayOf := goodIn_r _ [58] (by decide +kernel) (by decide +kernel)
set_option maxRecDepth 20000 in
theorem gX9_meet_X9_wayOf : GoodIn wsX9_meet (va_wsS RX9 163 yX9_wayOf wsX9_wayOf) := goodIn_app (goodIn_of _ (by decide +kernel)) ggX9_meet_X9_wayOf
set_option maxRecDepth 20000 in
theorem ggX9_meet_X9_step : GoodIn wsX9_meet wsX9_step := goodIn_r _ [62, 4, 47, 63, 64, 65, 8, 66, 27, 26, 6, 7, 9, 67, 68, 69, 70, 55, 51, 52, 53, 54, 49, 48, 96, 97, 98, 99, 100, 101, 102, 103, 104, 105, 106, 107, 108, 109, 110, 111, 112, 113, 114, 115, 116, 117, 118, 119, 120, 121, 122, 123, 124, 125, 126, 127] (by decide +kernel) (by decide +kernel)
set_option maxRecDepth 20000 in
theorem gX9_meet_X9_step : GoodIn wsX9_meet (wsV RX9 166 RX9 yX9_step wsX9_step) := goodIn_app (goodIn_of _ (by decide +kernel)) ggX9_meet_X9_step
set_option maxRecDepth 20000 in
theorem ggX9_meet_X9_beyond : GoodIn wsX9_meet wsX9_beyond := goodIn_r _ [66, 27, 26, 6, 7, 8, 9, 67, 68, 69, 70, 55, 96, 97, 98, 99, 100, 101, 102, 103, 104, 105, 106, 107, 108, 109, 110, 111, 112, 113, 114, 115, 116, 117, 118, 119, 120, 121, 122, 123, 124, 125, 126, 127] (by decide +kernel) (by decide +kernel)
set_option maxRecDepth 20000 in
theorem gX9_meet_X9_beyond : GoodIn wsX9_meet (wsV RX9 108 RX9 yX9_beyond wsX9_beyond) := goodIn_app (goodIn_of _ (by decide +kernel)) ggX9_meet_X9_beyond
theorem dX9_meet_0 : decode cX9_meet 0 = .ok (.iload_n 2, 1) := by decide +kernel
theorem dX9_meet_1 : decode cX9_meet 1 = .ok (.i2l, 1) := by decide +kernel
theorem dX9_meet_2 : decode cX9_meet 2 = .ok (.lconst 0, 1) := by decide +kernel
theorem dX9_meet_3 : decode cX9_meet 3 = .ok (.ldc2_w 214, 3) := by decide +kernel
theorem dX9_meet_6 : decode cX9_meet 6 = .ok (.invokestatic 74, 3) := by decide +kernel
theorem dX9_meet_9 : decode cX9_meet 9 = .ok (.ifCond .eq 35, 3) := by decide +kernel
theorem dX9_meet_12 : decode cX9_meet 12 = .ok (.iload_n 1, 1) := by decide +kernel
theorem dX9_meet_13 : decode cX9_meet 13 = .ok (.i2l, 1) := by decide +kernel
theorem dX9_meet_14 : decode cX9_meet 14 = .ok (.lconst 0, 1) := by decide +kernel
theorem dX9_meet_15 : decode cX9_meet 15 = .ok (.iload_n 2, 1) := by decide +kernel
theorem dX9_meet_16 : decode cX9_meet 16 = .ok (.i2l, 1) := by decide +kernel
theorem dX9_meet_17 : decode cX9_meet 17 = .ok (.lconst 0, 1) := by decide +kernel
theorem dX9_meet_18 : decode cX9_meet 18 = .ok (.ldc2_w 214, 3) := by decide +kernel
theorem dX9_meet_21 : decode cX9_meet 21 = .ok (.invokestatic 74, 3) := by decide +kernel
theorem dX9_meet_24 : decode cX9_meet 24 = .ok (.ifCond .eq 7, 3) := by decide +kernel
theorem dX9_meet_27 : decode cX9_meet 27 = .ok (.iload_n 2, 1) := by decide +kernel
theorem dX9_meet_28 : decode cX9_meet 28 = .ok (.goto 4, 3) := by decide +kernel
theorem dX9_meet_31 : decode cX9_meet 31 = .ok (.iconst 0, 1) := by decide +kernel
theorem dX9_meet_32 : decode cX9_meet 32 = .ok (.invokestatic 216, 3) := by decide +kernel
theorem dX9_meet_35 : decode cX9_meet 35 = .ok (.iconst 1, 1) := by decide +kernel
theorem dX9_meet_36 : decode cX9_meet 36 = .ok (.isub, 1) := by decide +kernel
theorem dX9_meet_37 : decode cX9_meet 37 = .ok (.i2l, 1) := by decide +kernel
theorem dX9_meet_38 : decode cX9_meet 38 = .ok (.invokestatic 74, 3) := by decide +kernel
theorem dX9_meet_41 : decode cX9_meet 41 = .ok (.ifCond .ne 6, 3) := by decide +kernel
theorem dX9_meet_44 : decode cX9_meet 44 = .ok (.bipush (-2), 2) := by decide +kernel
theorem dX9_meet_46 : decode cX9_meet 46 = .ok (.ireturn, 1) := by decide +kernel
theorem dX9_meet_47 : decode cX9_meet 47 = .ok (.aload_n 0, 1) := by decide +kernel
theorem dX9_meet_48 : decode cX9_meet 48 = .ok (.invokevirtual 178, 3) := by decide +kernel
theorem dX9_meet_51 : decode cX9_meet 51 = .ok (.istore_n 3, 1) := by decide +kernel
theorem dX9_meet_52 : decode cX9_meet 52 = .ok (.iload_n 3, 1) := by decide +kernel
theorem dX9_meet_53 : decode cX9_meet 53 = .ok (.bipush (-6), 2) := by decide +kernel
theorem dX9_meet_55 : decode cX9_meet 55 = .ok (.if_icmp .eq 5, 3) := by decide +kernel
theorem dX9_meet_58 : decode cX9_meet 58 = .ok (.iload_n 3, 1) := by decide +kernel
theorem dX9_meet_59 : decode cX9_meet 59 = .ok (.ireturn, 1) := by decide +kernel
theorem dX9_meet_60 : decode cX9_meet 60 = .ok (.aload_n 0, 1) := by decide +kernel
theorem dX9_meet_61 : decode cX9_meet 61 = .ok (.invokevirtual 142, 3) := by decide +kernel
theorem dX9_meet_64 : decode cX9_meet 64 = .ok (.aload_n 0, 1) := by decide +kernel
theorem dX9_meet_65 : decode cX9_meet 65 = .ok (.getfield 64, 3) := by decide +kernel
theorem dX9_meet_68 : decode cX9_meet 68 = .ok (.istore 4, 2) := by decide +kernel
theorem dX9_meet_70 : decode cX9_meet 70 = .ok (.iconst 0, 1) := by decide +kernel
theorem dX9_meet_71 : decode cX9_meet 71 = .ok (.istore 5, 2) := by decide +kernel
theorem dX9_meet_73 : decode cX9_meet 73 = .ok (.iload 5, 2) := by decide +kernel
theorem dX9_meet_75 : decode cX9_meet 75 = .ok (.aload_n 0, 1) := by decide +kernel
theorem dX9_meet_76 : decode cX9_meet 76 = .ok (.getfield 84, 3) := by decide +kernel
theorem dX9_meet_79 : decode cX9_meet 79 = .ok (.if_icmp .ge 118, 3) := by decide +kernel
theorem dX9_meet_82 : decode cX9_meet 82 = .ok (.iload 5, 2) := by decide +kernel
theorem dX9_meet_84 : decode cX9_meet 84 = .ok (.iload_n 2, 1) := by decide +kernel
theorem dX9_meet_85 : decode cX9_meet 85 = .ok (.if_icmp .ge 112, 3) := by decide +kernel
theorem dX9_meet_88 : decode cX9_meet 88 = .ok (.aload_n 0, 1) := by decide +kernel
theorem dX9_meet_89 : decode cX9_meet 89 = .ok (.getfield 115, 3) := by decide +kernel
theorem dX9_meet_92 : decode cX9_meet 92 = .ok (.istore 6, 2) := by decide +kernel
theorem dX9_meet_94 : decode cX9_meet 94 = .ok (.iload 4, 2) := by decide +kernel
theorem dX9_meet_96 : decode cX9_meet 96 = .ok (.istore 7, 2) := by decide +kernel
theorem dX9_meet_98 : decode cX9_meet 98 = .ok (.aload_n 0, 1) := by decide +kernel
theorem dX9_meet_99 : decode cX9_meet 99 = .ok (.aload_n 0, 1) := by decide +kernel
theorem dX9_meet_100 : decode cX9_meet 100 = .ok (.getfield 22, 3) := by decide +kernel
theorem dX9_meet_103 : decode cX9_meet 103 = .ok (.iload 5, 2) := by decide +kernel
theorem dX9_meet_105 : decode cX9_meet 105 = .ok (.iaload, 1) := by decide +kernel
theorem dX9_meet_106 : decode cX9_meet 106 = .ok (.invokestatic 163, 3) := by decide +kernel
theorem dX9_meet_109 : decode cX9_meet 109 = .ok (.invokevirtual 166, 3) := by decide +kernel
theorem dX9_meet_112 : decode cX9_meet 112 = .ok (.pop, 1) := by decide +kernel
theorem dX9_meet_113 : decode cX9_meet 113 = .ok (.iload_n 1, 1) := by decide +kernel
theorem dX9_meet_114 : decode cX9_meet 114 = .ok (.iload_n 2, 1) := by decide +kernel
theorem dX9_meet_115 : decode cX9_meet 115 = .ok (.iconst 1, 1) := by decide +kernel
theorem dX9_meet_116 : decode cX9_meet 116 = .ok (.isub, 1) := by decide +kernel
theorem dX9_meet_117 : decode cX9_meet 117 = .ok (.iload 5, 2) := by decide +kernel
theorem dX9_meet_119 : decode cX9_meet 119 = .ok (.isub, 1) := by decide +kernel
theorem dX9_meet_120 : decode cX9_meet 120 = .ok (.invokestatic 216, 3) := by decide +kernel
theorem dX9_meet_123 : decode cX9_meet 123 = .ok (.idiv, 1) := by decide +kernel
theorem dX9_meet_124 : decode cX9_meet 124 = .ok (.iconst 5, 1) := by decide +kernel
theorem dX9_meet_125 : decode cX9_meet 125 = .ok (.irem, 1) := by decide +kernel
theorem dX9_meet_126 : decode cX9_meet 126 = .ok (.istore 8, 2) := by decide +kernel
theorem dX9_meet_128 : decode cX9_meet 128 = .ok (.iload 8, 2) := by decide +kernel
theorem dX9_meet_130 : decode cX9_meet 130 = .ok (.iconst 4, 1) := by decide +kernel
theorem dX9_meet_131 : decode cX9_meet 131 = .ok (.if_icmp .ne 8, 3) := by decide +kernel
theorem dX9_meet_134 : decode cX9_meet 134 = .ok (.iload 4, 2) := by decide +kernel
theorem dX9_meet_136 : decode cX9_meet 136 = .ok (.goto 11, 3) := by decide +kernel
theorem dX9_meet_139 : decode cX9_meet 139 = .ok (.aload_n 0, 1) := by decide +kernel
theorem dX9_meet_140 : decode cX9_meet 140 = .ok (.iload 4, 2) := by decide +kernel
theorem dX9_meet_142 : decode cX9_meet 142 = .ok (.iload 8, 2) := by decide +kernel
theorem dX9_meet_144 : decode cX9_meet 144 = .ok (.invokevirtual 108, 3) := by decide +kernel
theorem dX9_meet_147 : decode cX9_meet 147 = .ok (.istore 9, 2) := by decide +kernel
theorem dX9_meet_149 : decode cX9_meet 149 = .ok (.iload 9, 2) := by decide +kernel
theorem dX9_meet_151 : decode cX9_meet 151 = .ok (.ifCond .lt 8, 3) := by decide +kernel
theorem dX9_meet_154 : decode cX9_meet 154 = .ok (.iload 9, 2) := by decide +kernel
theorem dX9_meet_156 : decode cX9_meet 156 = .ok (.goto 5, 3) := by decide +kernel
theorem dX9_meet_159 : decode cX9_meet 159 = .ok (.iload 4, 2) := by decide +kernel
theorem dX9_meet_161 : decode cX9_meet 161 = .ok (.istore 4, 2) := by decide +kernel
theorem dX9_meet_163 : decode cX9_meet 163 = .ok (.aload_n 0, 1) := by decide +kernel
theorem dX9_meet_164 : decode cX9_meet 164 = .ok (.getfield 115, 3) := by decide +kernel
theorem dX9_meet_167 : decode cX9_meet 167 = .ok (.iload 4, 2) := by decide +kernel
theorem dX9_meet_169 : decode cX9_meet 169 = .ok (.if_icmp .eq 19, 3) := by decide +kernel
theorem dX9_meet_172 : decode cX9_meet 172 = .ok (.aload_n 0, 1) := by decide +kernel
theorem dX9_meet_173 : decode cX9_meet 173 = .ok (.getfield 115, 3) := by decide +kernel
theorem dX9_meet_176 : decode cX9_meet 176 = .ok (.iload 7, 2) := by decide +kernel
theorem dX9_meet_178 : decode cX9_meet 178 = .ok (.if_icmp .ne 13, 3) := by decide +kernel
theorem dX9_meet_181 : decode cX9_meet 181 = .ok (.iload 4, 2) := by decide +kernel
theorem dX9_meet_183 : decode cX9_meet 183 = .ok (.iload 6, 2) := by decide +kernel
theorem dX9_meet_185 : decode cX9_meet 185 = .ok (.if_icmp .ne 6, 3) := by decide +kernel
theorem dX9_meet_188 : decode cX9_meet 188 = .ok (.iload 5, 2) := by decide +kernel
theorem dX9_meet_190 : decode cX9_meet 190 = .ok (.ireturn, 1) := by decide +kernel
theorem dX9_meet_191 : decode cX9_meet 191 = .ok (.iinc 5 1, 3) := by decide +kernel
theorem dX9_meet_194 : decode cX9_meet 194 = .ok (.goto (-121), 3) := by decide +kernel
theorem dX9_meet_197 : decode cX9_meet 197 = .ok (.bipush (-6), 2) := by decide +kernel
theorem dX9_meet_199 : decode cX9_meet 199 = .ok (.ireturn, 1) := by decide +kernel
set_option maxRecDepth 20000 in
theorem ggX9_oneMinute_X9_bare : GoodIn wsX9_oneMinute wsX9_bare := goodIn_r _ [7, 8, 9, 10, 6, 11, 12, 13, 14, 15, 16, 17, 18, 19, 20, 21, 22, 23, 24, 25, 26, 27, 28, 29, 30, 31, 32, 33, 34, 35, 36, 37, 38, 39, 40, 41, 42, 43, 44, 45, 46, 47, 48, 49, 50, 51, 52, 53, 54, 55, 56, 57, 58, 59, 60, 61, 62, 63, 64, 65, 66, 67, 68, 69, 70, 71, 72, 73, 74, 75, 76, 77, 78] (by decide +kernel) (by decide +kernel)
set_option maxRecDepth 20000 in
theorem gX9_oneMinute_X9_bare : GoodIn wsX9_oneMinute (wsV RX9 197 RX9 yX9_bare wsX9_bare) := goodIn_app (goodIn_of _ (by decide +kernel)) ggX9_oneMinute_X9_bare
set_option maxRecDepth 20000 in
theorem ggX9_oneMinute_X9_cells : GoodIn wsX9_oneMinute wsX9_cells := goodIn_r _ [11, 12, 13, 47, 48, 49, 50, 51, 52, 53, 54, 55, 56, 57, 58, 59, 60, 61, 62, 63, 64, 65, 66, 67, 68, 69, 70, 71, 72, 73, 74, 75, 76, 77, 78] (by decide +kernel) (by decide +kernel)
set_option maxRecDepth 20000 in
theorem gX9_oneMinute_X9_cells : GoodIn wsX9_oneMinute (wsV RX9 70 RX9 yX9_cells wsX9_cells) := goodIn_app (goodIn_of _ (by decide +kernel)) ggX9_oneMinute_X9_cells
set_option maxRecDepth 20000 in
theorem ggX9_oneMinute_X9_beyond : GoodIn wsX9_oneMinute wsX9_beyond := goodIn_r _ [39, 13, 12, 40, 41, 6, 42, 23, 24, 25, 26, 19, 47, 48, 49, 50, 51, 52, 53, 54, 55, 56, 57, 58, 59, 60, 61, 62, 63, 64, 65, 66, 67, 68, 69, 70, 71, 72, 73, 74, 75, 76, 77, 78] (by decide +kernel) (by decide +kernel)
set_option maxRecDepth 20000 in
theorem gX9_oneMinute_X9_beyond : GoodIn wsX9_oneMinute (wsV RX9 108 RX9 yX9_beyond wsX9_beyond) := goodIn_app (goodIn_of _ (by decide +kernel)) ggX9_oneMinute_X9_beyond
theorem dX9_oneMinute_0 : decode cX9_oneMinute 0 = .ok (.aload_n 0, 1) := by decide +kernel
theorem dX9_oneMinute_1 : decode cX9_oneMinute 1 = .ok (.invokevirtual 197, 3) := by decide +kernel
theorem dX9_oneMinute_4 : decode cX9_oneMinute 4 = .ok (.istore_n 2, 1) := by decide +kernel
theorem dX9_oneMinute_5 : decode cX9_oneMinute 5 = .ok (.iconst 0, 1) := by decide +kernel
theorem dX9_oneMinute_6 : decode cX9_oneMinute 6 = .ok (.istore_n 3, 1) := by decide +kernel
theorem dX9_oneMinute_7 : decode cX9_oneMinute 7 = .ok (.iload_n 3, 1) := by decide +kernel
theorem dX9_oneMinute_8 : decode cX9_oneMinute 8 = .ok (.aload_n 0, 1) := by decide +kernel
theorem dX9_oneMinute_9 : decode cX9_oneMinute 9 = .ok (.invokevirtual 70, 3) := by decide +kernel
theorem dX9_oneMinute_12 : decode cX9_oneMinute 12 = .ok (.if_icmp .ge 16, 3) := by decide +kernel
theorem dX9_oneMinute_15 : decode cX9_oneMinute 15 = .ok (.aload_n 0, 1) := by decide +kernel
theorem dX9_oneMinute_16 : decode cX9_oneMinute 16 = .ok (.getfield 37, 3) := by decide +kernel
theorem dX9_oneMinute_19 : decode cX9_oneMinute 19 = .ok (.iload_n 3, 1) := by decide +kernel
theorem dX9_oneMinute_20 : decode cX9_oneMinute 20 = .ok (.iconst 0, 1) := by decide +kernel
theorem dX9_oneMinute_21 : decode cX9_oneMinute 21 = .ok (.iastore, 1) := by decide +kernel
theorem dX9_oneMinute_22 : decode cX9_oneMinute 22 = .ok (.iinc 3 1, 3) := by decide +kernel
theorem dX9_oneMinute_25 : decode cX9_oneMinute 25 = .ok (.goto (-18), 3) := by decide +kernel
theorem dX9_oneMinute_28 : decode cX9_oneMinute 28 = .ok (.iconst 0, 1) := by decide +kernel
theorem dX9_oneMinute_29 : decode cX9_oneMinute 29 = .ok (.istore_n 3, 1) := by decide +kernel
theorem dX9_oneMinute_30 : decode cX9_oneMinute 30 = .ok (.iload_n 3, 1) := by decide +kernel
theorem dX9_oneMinute_31 : decode cX9_oneMinute 31 = .ok (.aload_n 0, 1) := by decide +kernel
theorem dX9_oneMinute_32 : decode cX9_oneMinute 32 = .ok (.invokevirtual 70, 3) := by decide +kernel
theorem dX9_oneMinute_35 : decode cX9_oneMinute 35 = .ok (.if_icmp .ge 91, 3) := by decide +kernel
theorem dX9_oneMinute_38 : decode cX9_oneMinute 38 = .ok (.iconst 0, 1) := by decide +kernel
theorem dX9_oneMinute_39 : decode cX9_oneMinute 39 = .ok (.istore 4, 2) := by decide +kernel
theorem dX9_oneMinute_41 : decode cX9_oneMinute 41 = .ok (.iload 4, 2) := by decide +kernel
theorem dX9_oneMinute_43 : decode cX9_oneMinute 43 = .ok (.iconst 5, 1) := by decide +kernel
theorem dX9_oneMinute_44 : decode cX9_oneMinute 44 = .ok (.if_icmp .ge 76, 3) := by decide +kernel
theorem dX9_oneMinute_47 : decode cX9_oneMinute 47 = .ok (.iload 4, 2) := by decide +kernel
theorem dX9_oneMinute_49 : decode cX9_oneMinute 49 = .ok (.iconst 4, 1) := by decide +kernel
theorem dX9_oneMinute_50 : decode cX9_oneMinute 50 = .ok (.if_icmp .ne 7, 3) := by decide +kernel
theorem dX9_oneMinute_53 : decode cX9_oneMinute 53 = .ok (.iload_n 3, 1) := by decide +kernel
theorem dX9_oneMinute_54 : decode cX9_oneMinute 54 = .ok (.goto 10, 3) := by decide +kernel
theorem dX9_oneMinute_57 : decode cX9_oneMinute 57 = .ok (.aload_n 0, 1) := by decide +kernel
theorem dX9_oneMinute_58 : decode cX9_oneMinute 58 = .ok (.iload_n 3, 1) := by decide +kernel
theorem dX9_oneMinute_59 : decode cX9_oneMinute 59 = .ok (.iload 4, 2) := by decide +kernel
theorem dX9_oneMinute_61 : decode cX9_oneMinute 61 = .ok (.invokevirtual 108, 3) := by decide +kernel
theorem dX9_oneMinute_64 : decode cX9_oneMinute 64 = .ok (.istore 5, 2) := by decide +kernel
theorem dX9_oneMinute_66 : decode cX9_oneMinute 66 = .ok (.iload 5, 2) := by decide +kernel
theorem dX9_oneMinute_68 : decode cX9_oneMinute 68 = .ok (.ifCond .lt 46, 3) := by decide +kernel
theorem dX9_oneMinute_71 : decode cX9_oneMinute 71 = .ok (.aload_n 0, 1) := by decide +kernel
theorem dX9_oneMinute_72 : decode cX9_oneMinute 72 = .ok (.getfield 34, 3) := by decide +kernel
theorem dX9_oneMinute_75 : decode cX9_oneMinute 75 = .ok (.iload_n 3, 1) := by decide +kernel
theorem dX9_oneMinute_76 : decode cX9_oneMinute 76 = .ok (.iaload, 1) := by decide +kernel
theorem dX9_oneMinute_77 : decode cX9_oneMinute 77 = .ok (.ifCond .le 37, 3) := by decide +kernel
theorem dX9_oneMinute_80 : decode cX9_oneMinute 80 = .ok (.iload_n 2, 1) := by decide +kernel
theorem dX9_oneMinute_81 : decode cX9_oneMinute 81 = .ok (.iload 5, 2) := by decide +kernel
theorem dX9_oneMinute_83 : decode cX9_oneMinute 83 = .ok (.ishr, 1) := by decide +kernel
theorem dX9_oneMinute_84 : decode cX9_oneMinute 84 = .ok (.iconst 1, 1) := by decide +kernel
theorem dX9_oneMinute_85 : decode cX9_oneMinute 85 = .ok (.iand, 1) := by decide +kernel
theorem dX9_oneMinute_86 : decode cX9_oneMinute 86 = .ok (.iload_n 1, 1) := by decide +kernel
theorem dX9_oneMinute_87 : decode cX9_oneMinute 87 = .ok (.ifCond .eq 7, 3) := by decide +kernel
theorem dX9_oneMinute_90 : decode cX9_oneMinute 90 = .ok (.iconst 0, 1) := by decide +kernel
theorem dX9_oneMinute_91 : decode cX9_oneMinute 91 = .ok (.goto 4, 3) := by decide +kernel
theorem dX9_oneMinute_94 : decode cX9_oneMinute 94 = .ok (.iconst 1, 1) := by decide +kernel
theorem dX9_oneMinute_95 : decode cX9_oneMinute 95 = .ok (.if_icmp .ne 19, 3) := by decide +kernel
theorem dX9_oneMinute_98 : decode cX9_oneMinute 98 = .ok (.aload_n 0, 1) := by decide +kernel
theorem dX9_oneMinute_99 : decode cX9_oneMinute 99 = .ok (.getfield 37, 3) := by decide +kernel
theorem dX9_oneMinute_102 : decode cX9_oneMinute 102 = .ok (.iload 5, 2) := by decide +kernel
theorem dX9_oneMinute_104 : decode cX9_oneMinute 104 = .ok (.dup2, 1) := by decide +kernel
theorem dX9_oneMinute_105 : decode cX9_oneMinute 105 = .ok (.iaload, 1) := by decide +kernel
theorem dX9_oneMinute_106 : decode cX9_oneMinute 106 = .ok (.aload_n 0, 1) := by decide +kernel
theorem dX9_oneMinute_107 : decode cX9_oneMinute 107 = .ok (.getfield 34, 3) := by decide +kernel
theorem dX9_oneMinute_110 : decode cX9_oneMinute 110 = .ok (.iload_n 3, 1) := by decide +kernel
theorem dX9_oneMinute_111 : decode cX9_oneMinute 111 = .ok (.iaload, 1) := by decide +kernel
theorem dX9_oneMinute_112 : decode cX9_oneMinute 112 = .ok (.iadd, 1) := by decide +kernel
theorem dX9_oneMinute_113 : decode cX9_oneMinute 113 = .ok (.iastore, 1) := by decide +kernel
theorem dX9_oneMinute_114 : decode cX9_oneMinute 114 = .ok (.iinc 4 1, 3) := by decide +kernel
theorem dX9_oneMinute_117 : decode cX9_oneMinute 117 = .ok (.goto (-76), 3) := by decide +kernel
theorem dX9_oneMinute_120 : decode cX9_oneMinute 120 = .ok (.iinc 3 1, 3) := by decide +kernel
theorem dX9_oneMinute_123 : decode cX9_oneMinute 123 = .ok (.goto (-93), 3) := by decide +kernel
theorem dX9_oneMinute_126 : decode cX9_oneMinute 126 = .ok (.iconst 0, 1) := by decide +kernel
theorem dX9_oneMinute_127 : decode cX9_oneMinute 127 = .ok (.istore_n 3, 1) := by decide +kernel
theorem dX9_oneMinute_128 : decode cX9_oneMinute 128 = .ok (.iload_n 3, 1) := by decide +kernel
theorem dX9_oneMinute_129 : decode cX9_oneMinute 129 = .ok (.aload_n 0, 1) := by decide +kernel
theorem dX9_oneMinute_130 : decode cX9_oneMinute 130 = .ok (.invokevirtual 70, 3) := by decide +kernel
theorem dX9_oneMinute_133 : decode cX9_oneMinute 133 = .ok (.if_icmp .ge 21, 3) := by decide +kernel
theorem dX9_oneMinute_136 : decode cX9_oneMinute 136 = .ok (.aload_n 0, 1) := by decide +kernel
theorem dX9_oneMinute_137 : decode cX9_oneMinute 137 = .ok (.getfield 34, 3) := by decide +kernel
theorem dX9_oneMinute_140 : decode cX9_oneMinute 140 = .ok (.iload_n 3, 1) := by decide +kernel
theorem dX9_oneMinute_141 : decode cX9_oneMinute 141 = .ok (.aload_n 0, 1) := by decide +kernel
theorem dX9_oneMinute_142 : decode cX9_oneMinute 142 = .ok (.getfield 37, 3) := by decide +kernel
theorem dX9_oneMinute_145 : decode cX9_oneMinute 145 = .ok (.iload_n 3, 1) := by decide +kernel
theorem dX9_oneMinute_146 : decode cX9_oneMinute 146 = .ok (.iaload, 1) := by decide +kernel
theorem dX9_oneMinute_147 : decode cX9_oneMinute 147 = .ok (.iastore, 1) := by decide +kernel
theorem dX9_oneMinute_148 : decode cX9_oneMinute 148 = .ok (.iinc 3 1, 3) := by decide +kernel
theorem dX9_oneMinute_151 : decode cX9_oneMinute 151 = .ok (.goto (-23), 3) := by decide +kernel
theorem dX9_oneMinute_154 : decode cX9_oneMinute 154 = .ok (.return_, 1) := by decide +kernel
set_option maxRecDepth 20000 in
theorem ggX9_where_X9_in : GoodIn wsX9_where wsX9_in := goodIn_r _ [7] (by decide +kernel) (by decide +kernel)
set_option maxRecDepth 20000 in
theorem gX9_where_X9_in : GoodIn wsX9_where (va_wsS RX9 74 yX9_in wsX9_in) := goodIn_app (goodIn_of _ (by decide +kernel)) ggX9_where_X9_in
set_option maxRecDepth 20000 in
theorem ggX9_where_X9_oneMinute : GoodIn wsX9_where wsX9_oneMinute := goodIn_r _ [11, 12, 2, 13, 14, 15, 6, 16, 17, 18, 19, 20, 21, 22, 23, 24, 25, 26, 27, 28, 29, 30, 31, 32, 33, 34, 35, 36, 37, 38, 39, 40, 41, 42, 43, 44, 45, 46, 47, 48, 4, 5, 7, 49, 50, 51, 52, 53, 54, 55, 56, 57, 58, 59, 60, 61, 62, 63, 64, 65, 66, 67, 68, 69, 70, 71, 72, 73, 74, 75, 76, 77, 78, 79, 80, 81, 82, 83, 84] (by decide +kernel) (by decide +kernel)
set_option maxRecDepth 20000 in
theorem gX9_where_X9_oneMinute : GoodIn wsX9_where (wsV RX9 219 RX9 yX9_oneMinute wsX9_oneMinute) := goodIn_app (goodIn_of _ (by decide +kernel)) ggX9_where_X9_oneMinute
set_option maxRecDepth 20000 in
theorem ggX9_where_X9_cells : GoodIn wsX9_where wsX9_cells := goodIn_r _ [20, 21, 22, 53, 54, 55, 56, 57, 58, 59, 60, 61, 62, 63, 64, 65, 66, 67, 68, 69, 70, 71, 72, 73, 74, 75, 76, 77, 78, 79, 80, 81, 82, 83, 84] (by decide +kernel) (by decide +kernel)
set_option maxRecDepth 20000 in
theorem gX9_where_X9_cells : GoodIn wsX9_where (wsV RX9 70 RX9 yX9_cells wsX9_cells) := goodIn_app (goodIn_of _ (by decide +kernel)) ggX9_where_X9_cells
theorem dX9_where_0 : decode cX9_where 0 = .ok (.iload_n 2, 1) := by decide +kernel
theorem dX9_where_1 : decode cX9_where 1 = .ok (.i2l, 1) := by decide +kernel
theorem dX9_where_2 : decode cX9_where 2 = .ok (.lconst 0, 1) := by decide +kernel
theorem dX9_where_3 : decode cX9_where 3 = .ok (.ldc2_w 214, 3) := by decide +kernel
theorem dX9_where_6 : decode cX9_where 6 = .ok (.invokestatic 74, 3) := by decide +kernel
theorem dX9_where_9 : decode cX9_where 9 = .ok (.ifCond .eq 44, 3) := by decide +kernel
theorem dX9_where_12 : decode cX9_where 12 = .ok (.iload_n 3, 1) := by decide +kernel
theorem dX9_where_13 : decode cX9_where 13 = .ok (.i2l, 1) := by decide +kernel
theorem dX9_where_14 : decode cX9_where 14 = .ok (.lconst 0, 1) := by decide +kernel
theorem dX9_where_15 : decode cX9_where 15 = .ok (.lconst 1, 1) := by decide +kernel
theorem dX9_where_16 : decode cX9_where 16 = .ok (.invokestatic 74, 3) := by decide +kernel
theorem dX9_where_19 : decode cX9_where 19 = .ok (.ifCond .eq 34, 3) := by decide +kernel
theorem dX9_where_22 : decode cX9_where 22 = .ok (.iload_n 1, 1) := by decide +kernel
theorem dX9_where_23 : decode cX9_where 23 = .ok (.i2l, 1) := by decide +kernel
theorem dX9_where_24 : decode cX9_where 24 = .ok (.lconst 0, 1) := by decide +kernel
theorem dX9_where_25 : decode cX9_where 25 = .ok (.iconst 1, 1) := by decide +kernel
theorem dX9_where_26 : decode cX9_where 26 = .ok (.iload_n 2, 1) := by decide +kernel
theorem dX9_where_27 : decode cX9_where 27 = .ok (.i2l, 1) := by decide +kernel
theorem dX9_where_28 : decode cX9_where 28 = .ok (.lconst 0, 1) := by decide +kernel
theorem dX9_where_29 : decode cX9_where 29 = .ok (.ldc2_w 214, 3) := by decide +kernel
theorem dX9_where_32 : decode cX9_where 32 = .ok (.invokestatic 74, 3) := by decide +kernel
theorem dX9_where_35 : decode cX9_where 35 = .ok (.ifCond .eq 7, 3) := by decide +kernel
theorem dX9_where_38 : decode cX9_where 38 = .ok (.iload_n 2, 1) := by decide +kernel
theorem dX9_where_39 : decode cX9_where 39 = .ok (.goto 4, 3) := by decide +kernel
theorem dX9_where_42 : decode cX9_where 42 = .ok (.iconst 0, 1) := by decide +kernel
theorem dX9_where_43 : decode cX9_where 43 = .ok (.ishl, 1) := by decide +kernel
theorem dX9_where_44 : decode cX9_where 44 = .ok (.iconst 1, 1) := by decide +kernel
theorem dX9_where_45 : decode cX9_where 45 = .ok (.isub, 1) := by decide +kernel
theorem dX9_where_46 : decode cX9_where 46 = .ok (.i2l, 1) := by decide +kernel
theorem dX9_where_47 : decode cX9_where 47 = .ok (.invokestatic 74, 3) := by decide +kernel
theorem dX9_where_50 : decode cX9_where 50 = .ok (.ifCond .ne 6, 3) := by decide +kernel
theorem dX9_where_53 : decode cX9_where 53 = .ok (.bipush (-2), 2) := by decide +kernel
theorem dX9_where_55 : decode cX9_where 55 = .ok (.ireturn, 1) := by decide +kernel
theorem dX9_where_56 : decode cX9_where 56 = .ok (.iconst 0, 1) := by decide +kernel
theorem dX9_where_57 : decode cX9_where 57 = .ok (.istore 4, 2) := by decide +kernel
theorem dX9_where_59 : decode cX9_where 59 = .ok (.iload 4, 2) := by decide +kernel
theorem dX9_where_61 : decode cX9_where 61 = .ok (.bipush 16, 2) := by decide +kernel
theorem dX9_where_63 : decode cX9_where 63 = .ok (.if_icmp .ge 30, 3) := by decide +kernel
theorem dX9_where_66 : decode cX9_where 66 = .ok (.aload_n 0, 1) := by decide +kernel
theorem dX9_where_67 : decode cX9_where 67 = .ok (.getfield 34, 3) := by decide +kernel
theorem dX9_where_70 : decode cX9_where 70 = .ok (.iload 4, 2) := by decide +kernel
theorem dX9_where_72 : decode cX9_where 72 = .ok (.iload 4, 2) := by decide +kernel
theorem dX9_where_74 : decode cX9_where 74 = .ok (.aload_n 0, 1) := by decide +kernel
theorem dX9_where_75 : decode cX9_where 75 = .ok (.getfield 61, 3) := by decide +kernel
theorem dX9_where_78 : decode cX9_where 78 = .ok (.if_icmp .ne 7, 3) := by decide +kernel
theorem dX9_where_81 : decode cX9_where 81 = .ok (.iconst 1, 1) := by decide +kernel
theorem dX9_where_82 : decode cX9_where 82 = .ok (.goto 4, 3) := by decide +kernel
theorem dX9_where_85 : decode cX9_where 85 = .ok (.iconst 0, 1) := by decide +kernel
theorem dX9_where_86 : decode cX9_where 86 = .ok (.iastore, 1) := by decide +kernel
theorem dX9_where_87 : decode cX9_where 87 = .ok (.iinc 4 1, 3) := by decide +kernel
theorem dX9_where_90 : decode cX9_where 90 = .ok (.goto (-31), 3) := by decide +kernel
theorem dX9_where_93 : decode cX9_where 93 = .ok (.iconst 0, 1) := by decide +kernel
theorem dX9_where_94 : decode cX9_where 94 = .ok (.istore 4, 2) := by decide +kernel
theorem dX9_where_96 : decode cX9_where 96 = .ok (.iload 4, 2) := by decide +kernel
theorem dX9_where_98 : decode cX9_where 98 = .ok (.iload_n 2, 1) := by decide +kernel
theorem dX9_where_99 : decode cX9_where 99 = .ok (.if_icmp .ge 28, 3) := by decide +kernel
theorem dX9_where_102 : decode cX9_where 102 = .ok (.aload_n 0, 1) := by decide +kernel
theorem dX9_where_103 : decode cX9_where 103 = .ok (.iload_n 1, 1) := by decide +kernel
theorem dX9_where_104 : decode cX9_where 104 = .ok (.iload 4, 2) := by decide +kernel
theorem dX9_where_106 : decode cX9_where 106 = .ok (.ishr, 1) := by decide +kernel
theorem dX9_where_107 : decode cX9_where 107 = .ok (.iconst 1, 1) := by decide +kernel
theorem dX9_where_108 : decode cX9_where 108 = .ok (.iand, 1) := by decide +kernel
theorem dX9_where_109 : decode cX9_where 109 = .ok (.iconst 1, 1) := by decide +kernel
theorem dX9_where_110 : decode cX9_where 110 = .ok (.if_icmp .ne 7, 3) := by decide +kernel
theorem dX9_where_113 : decode cX9_where 113 = .ok (.iconst 1, 1) := by decide +kernel
theorem dX9_where_114 : decode cX9_where 114 = .ok (.goto 4, 3) := by decide +kernel
theorem dX9_where_117 : decode cX9_where 117 = .ok (.iconst 0, 1) := by decide +kernel
theorem dX9_where_118 : decode cX9_where 118 = .ok (.invokevirtual 219, 3) := by decide +kernel
theorem dX9_where_121 : decode cX9_where 121 = .ok (.iinc 4 1, 3) := by decide +kernel
theorem dX9_where_124 : decode cX9_where 124 = .ok (.goto (-28), 3) := by decide +kernel
theorem dX9_where_127 : decode cX9_where 127 = .ok (.iconst 0, 1) := by decide +kernel
theorem dX9_where_128 : decode cX9_where 128 = .ok (.istore 4, 2) := by decide +kernel
theorem dX9_where_130 : decode cX9_where 130 = .ok (.iconst 0, 1) := by decide +kernel
theorem dX9_where_131 : decode cX9_where 131 = .ok (.istore 5, 2) := by decide +kernel
theorem dX9_where_133 : decode cX9_where 133 = .ok (.iconst 0, 1) := by decide +kernel
theorem dX9_where_134 : decode cX9_where 134 = .ok (.istore 6, 2) := by decide +kernel
theorem dX9_where_136 : decode cX9_where 136 = .ok (.iload 6, 2) := by decide +kernel
theorem dX9_where_138 : decode cX9_where 138 = .ok (.aload_n 0, 1) := by decide +kernel
theorem dX9_where_139 : decode cX9_where 139 = .ok (.invokevirtual 70, 3) := by decide +kernel
theorem dX9_where_142 : decode cX9_where 142 = .ok (.if_icmp .ge 44, 3) := by decide +kernel
theorem dX9_where_145 : decode cX9_where 145 = .ok (.iload 4, 2) := by decide +kernel
theorem dX9_where_147 : decode cX9_where 147 = .ok (.aload_n 0, 1) := by decide +kernel
theorem dX9_where_148 : decode cX9_where 148 = .ok (.getfield 34, 3) := by decide +kernel
theorem dX9_where_151 : decode cX9_where 151 = .ok (.iload 6, 2) := by decide +kernel
theorem dX9_where_153 : decode cX9_where 153 = .ok (.iaload, 1) := by decide +kernel
theorem dX9_where_154 : decode cX9_where 154 = .ok (.ifCond .le 10, 3) := by decide +kernel
theorem dX9_where_157 : decode cX9_where 157 = .ok (.iconst 1, 1) := by decide +kernel
theorem dX9_where_158 : decode cX9_where 158 = .ok (.iload 6, 2) := by decide +kernel
theorem dX9_where_160 : decode cX9_where 160 = .ok (.ishl, 1) := by decide +kernel
theorem dX9_where_161 : decode cX9_where 161 = .ok (.goto 4, 3) := by decide +kernel
theorem dX9_where_164 : decode cX9_where 164 = .ok (.iconst 0, 1) := by decide +kernel
theorem dX9_where_165 : decode cX9_where 165 = .ok (.ior, 1) := by decide +kernel
theorem dX9_where_166 : decode cX9_where 166 = .ok (.istore 4, 2) := by decide +kernel
theorem dX9_where_168 : decode cX9_where 168 = .ok (.iload 5, 2) := by decide +kernel
theorem dX9_where_170 : decode cX9_where 170 = .ok (.aload_n 0, 1) := by decide +kernel
theorem dX9_where_171 : decode cX9_where 171 = .ok (.getfield 34, 3) := by decide +kernel
theorem dX9_where_174 : decode cX9_where 174 = .ok (.iload 6, 2) := by decide +kernel
theorem dX9_where_176 : decode cX9_where 176 = .ok (.iaload, 1) := by decide +kernel
theorem dX9_where_177 : decode cX9_where 177 = .ok (.iadd, 1) := by decide +kernel
theorem dX9_where_178 : decode cX9_where 178 = .ok (.istore 5, 2) := by decide +kernel
theorem dX9_where_180 : decode cX9_where 180 = .ok (.iinc 6 1, 3) := by decide +kernel
theorem dX9_where_183 : decode cX9_where 183 = .ok (.goto (-47), 3) := by decide +kernel
theorem dX9_where_186 : decode cX9_where 186 = .ok (.iload_n 3, 1) := by decide +kernel
theorem dX9_where_187 : decode cX9_where 187 = .ok (.ifCond .ne 8, 3) := by decide +kernel
theorem dX9_where_190 : decode cX9_where 190 = .ok (.iload 4, 2) := by decide +kernel
theorem dX9_where_192 : decode cX9_where 192 = .ok (.goto 5, 3) := by decide +kernel
theorem dX9_where_195 : decode cX9_where 195 = .ok (.iload 5, 2) := by decide +kernel
theorem dX9_where_197 : decode cX9_where 197 = .ok (.ireturn, 1) := by decide +kernel
theorem dX9_lowest_0 : decode cX9_lowest 0 = .ok (.lload_n 2, 1) := by decide +kernel
theorem dX9_lowest_1 : decode cX9_lowest 1 = .ok (.lstore 5, 2) := by decide +kernel
theorem dX9_lowest_3 : decode cX9_lowest 3 = .ok (.lload_n 0, 1) := by decide +kernel
theorem dX9_lowest_4 : decode cX9_lowest 4 = .ok (.lstore 7, 2) := by decide +kernel
theorem dX9_lowest_6 : decode cX9_lowest 6 = .ok (.lload 7, 2) := by decide +kernel
theorem dX9_lowest_8 : decode cX9_lowest 8 = .ok (.lconst 0, 1) := by decide +kernel
theorem dX9_lowest_9 : decode cX9_lowest 9 = .ok (.lcmp, 1) := by decide +kernel
theorem dX9_lowest_10 : decode cX9_lowest 10 = .ok (.ifCond .eq 21, 3) := by decide +kernel
theorem dX9_lowest_13 : decode cX9_lowest 13 = .ok (.lload 5, 2) := by decide +kernel
theorem dX9_lowest_15 : decode cX9_lowest 15 = .ok (.lload 7, 2) := by decide +kernel
theorem dX9_lowest_17 : decode cX9_lowest 17 = .ok (.lrem, 1) := by decide +kernel
theorem dX9_lowest_18 : decode cX9_lowest 18 = .ok (.lstore 9, 2) := by decide +kernel
theorem dX9_lowest_20 : decode cX9_lowest 20 = .ok (.lload 7, 2) := by decide +kernel
theorem dX9_lowest_22 : decode cX9_lowest 22 = .ok (.lstore 5, 2) := by decide +kernel
theorem dX9_lowest_24 : decode cX9_lowest 24 = .ok (.lload 9, 2) := by decide +kernel
theorem dX9_lowest_26 : decode cX9_lowest 26 = .ok (.lstore 7, 2) := by decide +kernel
theorem dX9_lowest_28 : decode cX9_lowest 28 = .ok (.goto (-22), 3) := by decide +kernel
theorem dX9_lowest_31 : decode cX9_lowest 31 = .ok (.iload 4, 2) := by decide +kernel
theorem dX9_lowest_33 : decode cX9_lowest 33 = .ok (.ifCond .ne 10, 3) := by decide +kernel
theorem dX9_lowest_36 : decode cX9_lowest 36 = .ok (.lload_n 0, 1) := by decide +kernel
theorem dX9_lowest_37 : decode cX9_lowest 37 = .ok (.lload 5, 2) := by decide +kernel
theorem dX9_lowest_39 : decode cX9_lowest 39 = .ok (.ldiv, 1) := by decide +kernel
theorem dX9_lowest_40 : decode cX9_lowest 40 = .ok (.goto 7, 3) := by decide +kernel
theorem dX9_lowest_43 : decode cX9_lowest 43 = .ok (.lload_n 2, 1) := by decide +kernel
theorem dX9_lowest_44 : decode cX9_lowest 44 = .ok (.lload 5, 2) := by decide +kernel
theorem dX9_lowest_46 : decode cX9_lowest 46 = .ok (.ldiv, 1) := by decide +kernel
theorem dX9_lowest_47 : decode cX9_lowest 47 = .ok (.lreturn, 1) := by decide +kernel
set_option maxRecDepth 20000 in
theorem ggX9_wind_X9_in : GoodIn wsX9_wind wsX9_in := goodIn_r _ [10] (by decide +kernel) (by decide +kernel)
set_option maxRecDepth 20000 in
theorem gX9_wind_X9_in : GoodIn wsX9_wind (va_wsS RX9 74 yX9_in wsX9_in) := goodIn_app (goodIn_of _ (by decide +kernel)) ggX9_wind_X9_in
set_option maxRecDepth 20000 in
theorem ggX9_wind_X9_refusal : GoodIn wsX9_wind wsX9_refusal := goodIn_r _ [14, 15, 16, 17, 18, 9, 19, 20, 21, 7, 8, 10, 22, 23, 24, 25, 26, 27, 28, 29, 30, 31, 32, 33, 34, 35, 36, 37, 38, 39, 40, 6, 4, 41, 42, 43, 44, 45, 46, 47, 48, 49, 50, 51, 52, 53, 54, 55, 56, 57, 58, 59, 60, 61, 62, 63, 64, 65, 66, 67, 68, 69, 70, 71, 72, 73, 74, 75, 76, 77, 78, 79, 80, 81, 82, 83, 84, 85, 86, 87, 88, 89, 90, 91, 92, 93, 94, 98, 99, 100, 101, 102, 103, 104, 105, 106, 107, 108, 109, 110, 111, 112, 113, 114, 115, 116, 117, 118, 119, 120, 121, 122, 123, 124, 125, 126, 127, 128, 129] (by decide +kernel) (by decide +kernel)
set_option maxRecDepth 20000 in
theorem gX9_wind_X9_refusal : GoodIn wsX9_wind (wsV RX9 178 RX9 yX9_refusal wsX9_refusal) := goodIn_app (goodIn_of _ (by decide +kernel)) ggX9_wind_X9_refusal
set_option maxRecDepth 20000 in
theorem ggX9_wind_X9_lowest : GoodIn wsX9_wind wsX9_lowest := goodIn_r _ [97] (by decide +kernel) (by decide +kernel)
set_option maxRecDepth 20000 in
theorem gX9_wind_X9_lowest : GoodIn wsX9_wind (va_wsS RX9 231 yX9_lowest wsX9_lowest) := goodIn_app (goodIn_of _ (by decide +kernel)) ggX9_wind_X9_lowest
theorem dX9_wind_0 : decode cX9_wind 0 = .ok (.iload_n 1, 1) := by decide +kernel
theorem dX9_wind_1 : decode cX9_wind 1 = .ok (.i2l, 1) := by decide +kernel
theorem dX9_wind_2 : decode cX9_wind 2 = .ok (.lconst 0, 1) := by decide +kernel
theorem dX9_wind_3 : decode cX9_wind 3 = .ok (.ldc2_w 223, 3) := by decide +kernel
theorem dX9_wind_6 : decode cX9_wind 6 = .ok (.invokestatic 74, 3) := by decide +kernel
theorem dX9_wind_9 : decode cX9_wind 9 = .ok (.ifCond .eq 13, 3) := by decide +kernel
theorem dX9_wind_12 : decode cX9_wind 12 = .ok (.iload_n 2, 1) := by decide +kernel
theorem dX9_wind_13 : decode cX9_wind 13 = .ok (.i2l, 1) := by decide +kernel
theorem dX9_wind_14 : decode cX9_wind 14 = .ok (.lconst 0, 1) := by decide +kernel
theorem dX9_wind_15 : decode cX9_wind 15 = .ok (.lconst 1, 1) := by decide +kernel
theorem dX9_wind_16 : decode cX9_wind 16 = .ok (.invokestatic 74, 3) := by decide +kernel
theorem dX9_wind_19 : decode cX9_wind 19 = .ok (.ifCond .ne 7, 3) := by decide +kernel
theorem dX9_wind_22 : decode cX9_wind 22 = .ok (.ldc2_w 225, 3) := by decide +kernel
theorem dX9_wind_25 : decode cX9_wind 25 = .ok (.lreturn, 1) := by decide +kernel
theorem dX9_wind_26 : decode cX9_wind 26 = .ok (.aload_n 0, 1) := by decide +kernel
theorem dX9_wind_27 : decode cX9_wind 27 = .ok (.invokevirtual 178, 3) := by decide +kernel
theorem dX9_wind_30 : decode cX9_wind 30 = .ok (.istore_n 3, 1) := by decide +kernel
theorem dX9_wind_31 : decode cX9_wind 31 = .ok (.iload_n 3, 1) := by decide +kernel
theorem dX9_wind_32 : decode cX9_wind 32 = .ok (.bipush (-6), 2) := by decide +kernel
theorem dX9_wind_34 : decode cX9_wind 34 = .ok (.if_icmp .eq 10, 3) := by decide +kernel
theorem dX9_wind_37 : decode cX9_wind 37 = .ok (.ldc2_w 227, 3) := by decide +kernel
theorem dX9_wind_40 : decode cX9_wind 40 = .ok (.iload_n 3, 1) := by decide +kernel
theorem dX9_wind_41 : decode cX9_wind 41 = .ok (.i2l, 1) := by decide +kernel
theorem dX9_wind_42 : decode cX9_wind 42 = .ok (.ladd, 1) := by decide +kernel
theorem dX9_wind_43 : decode cX9_wind 43 = .ok (.lreturn, 1) := by decide +kernel
theorem dX9_wind_44 : decode cX9_wind 44 = .ok (.aload_n 0, 1) := by decide +kernel
theorem dX9_wind_45 : decode cX9_wind 45 = .ok (.getfield 160, 3) := by decide +kernel
theorem dX9_wind_48 : decode cX9_wind 48 = .ok (.bipush 12, 2) := by decide +kernel
theorem dX9_wind_50 : decode cX9_wind 50 = .ok (.if_icmp .le 7, 3) := by decide +kernel
theorem dX9_wind_53 : decode cX9_wind 53 = .ok (.ldc2_w 229, 3) := by decide +kernel
theorem dX9_wind_56 : decode cX9_wind 56 = .ok (.lreturn, 1) := by decide +kernel
theorem dX9_wind_57 : decode cX9_wind 57 = .ok (.aload_n 0, 1) := by decide +kernel
theorem dX9_wind_58 : decode cX9_wind 58 = .ok (.getfield 157, 3) := by decide +kernel
theorem dX9_wind_61 : decode cX9_wind 61 = .ok (.aload_n 0, 1) := by decide +kernel
theorem dX9_wind_62 : decode cX9_wind 62 = .ok (.getfield 160, 3) := by decide +kernel
theorem dX9_wind_65 : decode cX9_wind 65 = .ok (.if_icmp .le 6, 3) := by decide +kernel
theorem dX9_wind_68 : decode cX9_wind 68 = .ok (.iload_n 2, 1) := by decide +kernel
theorem dX9_wind_69 : decode cX9_wind 69 = .ok (.i2l, 1) := by decide +kernel
theorem dX9_wind_70 : decode cX9_wind 70 = .ok (.lreturn, 1) := by decide +kernel
theorem dX9_wind_71 : decode cX9_wind 71 = .ok (.lconst 1, 1) := by decide +kernel
theorem dX9_wind_72 : decode cX9_wind 72 = .ok (.lstore 4, 2) := by decide +kernel
theorem dX9_wind_74 : decode cX9_wind 74 = .ok (.lconst 1, 1) := by decide +kernel
theorem dX9_wind_75 : decode cX9_wind 75 = .ok (.lstore 6, 2) := by decide +kernel
theorem dX9_wind_77 : decode cX9_wind 77 = .ok (.iconst 0, 1) := by decide +kernel
theorem dX9_wind_78 : decode cX9_wind 78 = .ok (.istore 8, 2) := by decide +kernel
theorem dX9_wind_80 : decode cX9_wind 80 = .ok (.iload 8, 2) := by decide +kernel
theorem dX9_wind_82 : decode cX9_wind 82 = .ok (.aload_n 0, 1) := by decide +kernel
theorem dX9_wind_83 : decode cX9_wind 83 = .ok (.getfield 160, 3) := by decide +kernel
theorem dX9_wind_86 : decode cX9_wind 86 = .ok (.if_icmp .ge 24, 3) := by decide +kernel
theorem dX9_wind_89 : decode cX9_wind 89 = .ok (.lload 4, 2) := by decide +kernel
theorem dX9_wind_91 : decode cX9_wind 91 = .ok (.iload_n 1, 1) := by decide +kernel
theorem dX9_wind_92 : decode cX9_wind 92 = .ok (.i2l, 1) := by decide +kernel
theorem dX9_wind_93 : decode cX9_wind 93 = .ok (.lmul, 1) := by decide +kernel
theorem dX9_wind_94 : decode cX9_wind 94 = .ok (.lstore 4, 2) := by decide +kernel
theorem dX9_wind_96 : decode cX9_wind 96 = .ok (.lload 6, 2) := by decide +kernel
theorem dX9_wind_98 : decode cX9_wind 98 = .ok (.ldc2_w 223, 3) := by decide +kernel
theorem dX9_wind_101 : decode cX9_wind 101 = .ok (.lmul, 1) := by decide +kernel
theorem dX9_wind_102 : decode cX9_wind 102 = .ok (.lstore 6, 2) := by decide +kernel
theorem dX9_wind_104 : decode cX9_wind 104 = .ok (.iinc 8 1, 3) := by decide +kernel
theorem dX9_wind_107 : decode cX9_wind 107 = .ok (.goto (-27), 3) := by decide +kernel
theorem dX9_wind_110 : decode cX9_wind 110 = .ok (.lload 4, 2) := by decide +kernel
theorem dX9_wind_112 : decode cX9_wind 112 = .ok (.lload 6, 2) := by decide +kernel
theorem dX9_wind_114 : decode cX9_wind 114 = .ok (.iload_n 2, 1) := by decide +kernel
theorem dX9_wind_115 : decode cX9_wind 115 = .ok (.invokestatic 231, 3) := by decide +kernel
theorem dX9_wind_118 : decode cX9_wind 118 = .ok (.lreturn, 1) := by decide +kernel
set_option maxRecDepth 20000 in
theorem ggX9_night_X9_in : GoodIn wsX9_night wsX9_in := goodIn_r _ [12] (by decide +kernel) (by decide +kernel)
set_option maxRecDepth 20000 in
theorem gX9_night_X9_in : GoodIn wsX9_night (va_wsS RX9 74 yX9_in wsX9_in) := goodIn_app (goodIn_of _ (by decide +kernel)) ggX9_night_X9_in
set_option maxRecDepth 20000 in
theorem ggX9_night_X9_begin : GoodIn wsX9_night wsX9_begin := goodIn_r _ [16, 17, 18, 8, 19, 20, 21, 22, 11, 23, 7, 24, 67, 68, 69, 70, 71, 72, 73, 74, 75, 76, 77, 78, 79, 80, 81, 82, 83, 84, 85, 86, 87, 88, 89, 90, 91, 92, 93, 94, 95, 96, 97, 98] (by decide +kernel) (by decide +kernel)
set_option maxRecDepth 20000 in
theorem gX9_night_X9_begin : GoodIn wsX9_night (wsV RX9 142 RX9 yX9_begin wsX9_begin) := goodIn_app (goodIn_of _ (by decide +kernel)) ggX9_night_X9_begin
set_option maxRecDepth 20000 in
theorem ggX9_night_X9_step : GoodIn wsX9_night wsX9_step := goodIn_r _ [28, 7, 17, 29, 30, 31, 11, 32, 33, 34, 9, 10, 12, 35, 36, 37, 38, 24, 20, 21, 22, 23, 8, 18, 67, 68, 69, 70, 71, 72, 73, 74, 75, 76, 77, 78, 79, 80, 81, 82, 83, 84, 85, 86, 87, 88, 89, 90, 91, 92, 93, 94, 95, 96, 97, 98] (by decide +kernel) (by decide +kernel)
set_option maxRecDepth 20000 in
theorem gX9_night_X9_step : GoodIn wsX9_night (wsV RX9 166 RX9 yX9_step wsX9_step) := goodIn_app (goodIn_of _ (by decide +kernel)) ggX9_night_X9_step
set_option maxRecDepth 20000 in
theorem ggX9_night_X9_shownTo : GoodIn wsX9_night wsX9_shownTo := goodIn_r _ [42, 43, 44, 45, 46, 11, 47, 7, 17, 24, 48, 49, 18, 50, 51, 52, 53, 54, 55, 56, 57, 58, 59, 29, 30, 31, 32, 33, 34, 9, 10, 12, 35, 36, 37, 38, 60, 61, 62, 63, 67, 68, 69, 70, 71, 72, 73, 74, 75, 76, 77, 78, 79, 80, 81, 82, 83, 84, 85, 86, 87, 88, 89, 90, 91, 92, 93, 94, 95, 96, 97, 98] (by decide +kernel) (by decide +kernel)
set_option maxRecDepth 20000 in
theorem gX9_night_X9_shownTo : GoodIn wsX9_night (wsV RX9 169 RX9 yX9_shownTo wsX9_shownTo) := goodIn_app (goodIn_of _ (by decide +kernel)) ggX9_night_X9_shownTo
set_option maxRecDepth 20000 in
theorem ggX9_night_X9_ones : GoodIn wsX9_night wsX9_ones := goodIn_r _ [66] (by decide +kernel) (by decide +kernel)
set_option maxRecDepth 20000 in
theorem gX9_night_X9_ones : GoodIn wsX9_night (va_wsS RX9 211 yX9_ones wsX9_ones) := goodIn_app (goodIn_of _ (by decide +kernel)) ggX9_night_X9_ones
theorem dX9_night_0 : decode cX9_night 0 = .ok (.iload_n 1, 1) := by decide +kernel
theorem dX9_night_1 : decode cX9_night 1 = .ok (.i2l, 1) := by decide +kernel
theorem dX9_night_2 : decode cX9_night 2 = .ok (.lconst 0, 1) := by decide +kernel
theorem dX9_night_3 : decode cX9_night 3 = .ok (.ldc2_w 235, 3) := by decide +kernel
theorem dX9_night_6 : decode cX9_night 6 = .ok (.invokestatic 74, 3) := by decide +kernel
theorem dX9_night_9 : decode cX9_night 9 = .ok (.ifCond .eq 27, 3) := by decide +kernel
theorem dX9_night_12 : decode cX9_night 12 = .ok (.iload_n 2, 1) := by decide +kernel
theorem dX9_night_13 : decode cX9_night 13 = .ok (.i2l, 1) := by decide +kernel
theorem dX9_night_14 : decode cX9_night 14 = .ok (.lconst 0, 1) := by decide +kernel
theorem dX9_night_15 : decode cX9_night 15 = .ok (.ldc2_w 237, 3) := by decide +kernel
theorem dX9_night_18 : decode cX9_night 18 = .ok (.invokestatic 74, 3) := by decide +kernel
theorem dX9_night_21 : decode cX9_night 21 = .ok (.ifCond .eq 15, 3) := by decide +kernel
theorem dX9_night_24 : decode cX9_night 24 = .ok (.iload_n 3, 1) := by decide +kernel
theorem dX9_night_25 : decode cX9_night 25 = .ok (.i2l, 1) := by decide +kernel
theorem dX9_night_26 : decode cX9_night 26 = .ok (.lconst 0, 1) := by decide +kernel
theorem dX9_night_27 : decode cX9_night 27 = .ok (.ldc2_w 239, 3) := by decide +kernel
theorem dX9_night_30 : decode cX9_night 30 = .ok (.invokestatic 74, 3) := by decide +kernel
theorem dX9_night_33 : decode cX9_night 33 = .ok (.ifCond .ne 6, 3) := by decide +kernel
theorem dX9_night_36 : decode cX9_night 36 = .ok (.bipush (-2), 2) := by decide +kernel
theorem dX9_night_38 : decode cX9_night 38 = .ok (.ireturn, 1) := by decide +kernel
theorem dX9_night_39 : decode cX9_night 39 = .ok (.aload_n 0, 1) := by decide +kernel
theorem dX9_night_40 : decode cX9_night 40 = .ok (.invokevirtual 142, 3) := by decide +kernel
theorem dX9_night_43 : decode cX9_night 43 = .ok (.iload_n 1, 1) := by decide +kernel
theorem dX9_night_44 : decode cX9_night 44 = .ok (.istore 4, 2) := by decide +kernel
theorem dX9_night_46 : decode cX9_night 46 = .ok (.iconst 0, 1) := by decide +kernel
theorem dX9_night_47 : decode cX9_night 47 = .ok (.istore 5, 2) := by decide +kernel
theorem dX9_night_49 : decode cX9_night 49 = .ok (.iconst 0, 1) := by decide +kernel
theorem dX9_night_50 : decode cX9_night 50 = .ok (.istore 6, 2) := by decide +kernel
theorem dX9_night_52 : decode cX9_night 52 = .ok (.iload 6, 2) := by decide +kernel
theorem dX9_night_54 : decode cX9_night 54 = .ok (.iload_n 2, 1) := by decide +kernel
theorem dX9_night_55 : decode cX9_night 55 = .ok (.if_icmp .ge 54, 3) := by decide +kernel
theorem dX9_night_58 : decode cX9_night 58 = .ok (.ldc2_w 241, 3) := by decide +kernel
theorem dX9_night_61 : decode cX9_night 61 = .ok (.iload 4, 2) := by decide +kernel
theorem dX9_night_63 : decode cX9_night 63 = .ok (.i2l, 1) := by decide +kernel
theorem dX9_night_64 : decode cX9_night 64 = .ok (.lmul, 1) := by decide +kernel
theorem dX9_night_65 : decode cX9_night 65 = .ok (.ldc2_w 243, 3) := by decide +kernel
theorem dX9_night_68 : decode cX9_night 68 = .ok (.ladd, 1) := by decide +kernel
theorem dX9_night_69 : decode cX9_night 69 = .ok (.ldc2_w 245, 3) := by decide +kernel
theorem dX9_night_72 : decode cX9_night 72 = .ok (.lrem, 1) := by decide +kernel
theorem dX9_night_73 : decode cX9_night 73 = .ok (.l2i, 1) := by decide +kernel
theorem dX9_night_74 : decode cX9_night 74 = .ok (.istore 4, 2) := by decide +kernel
theorem dX9_night_76 : decode cX9_night 76 = .ok (.aload_n 0, 1) := by decide +kernel
theorem dX9_night_77 : decode cX9_night 77 = .ok (.iload 4, 2) := by decide +kernel
theorem dX9_night_79 : decode cX9_night 79 = .ok (.iconst 5, 1) := by decide +kernel
theorem dX9_night_80 : decode cX9_night 80 = .ok (.irem, 1) := by decide +kernel
theorem dX9_night_81 : decode cX9_night 81 = .ok (.invokevirtual 166, 3) := by decide +kernel
theorem dX9_night_84 : decode cX9_night 84 = .ok (.pop, 1) := by decide +kernel
theorem dX9_night_85 : decode cX9_night 85 = .ok (.iload 5, 2) := by decide +kernel
theorem dX9_night_87 : decode cX9_night 87 = .ok (.aload_n 0, 1) := by decide +kernel
theorem dX9_night_88 : decode cX9_night 88 = .ok (.iconst 1, 1) := by decide +kernel
theorem dX9_night_89 : decode cX9_night 89 = .ok (.invokevirtual 169, 3) := by decide +kernel
theorem dX9_night_92 : decode cX9_night 92 = .ok (.ifCond .lt 7, 3) := by decide +kernel
theorem dX9_night_95 : decode cX9_night 95 = .ok (.iconst 1, 1) := by decide +kernel
theorem dX9_night_96 : decode cX9_night 96 = .ok (.goto 4, 3) := by decide +kernel
theorem dX9_night_99 : decode cX9_night 99 = .ok (.iconst 0, 1) := by decide +kernel
theorem dX9_night_100 : decode cX9_night 100 = .ok (.iadd, 1) := by decide +kernel
theorem dX9_night_101 : decode cX9_night 101 = .ok (.istore 5, 2) := by decide +kernel
theorem dX9_night_103 : decode cX9_night 103 = .ok (.iinc 6 1, 3) := by decide +kernel
theorem dX9_night_106 : decode cX9_night 106 = .ok (.goto (-54), 3) := by decide +kernel
theorem dX9_night_109 : decode cX9_night 109 = .ok (.iload_n 3, 1) := by decide +kernel
theorem dX9_night_110 : decode cX9_night 110 = .ok (.ifCond .ne 8, 3) := by decide +kernel
theorem dX9_night_113 : decode cX9_night 113 = .ok (.iload 5, 2) := by decide +kernel
theorem dX9_night_115 : decode cX9_night 115 = .ok (.goto 22, 3) := by decide +kernel
theorem dX9_night_118 : decode cX9_night 118 = .ok (.iload_n 3, 1) := by decide +kernel
theorem dX9_night_119 : decode cX9_night 119 = .ok (.iconst 1, 1) := by decide +kernel
theorem dX9_night_120 : decode cX9_night 120 = .ok (.if_icmp .ne 10, 3) := by decide +kernel
theorem dX9_night_123 : decode cX9_night 123 = .ok (.aload_n 0, 1) := by decide +kernel
theorem dX9_night_124 : decode cX9_night 124 = .ok (.getfield 115, 3) := by decide +kernel
theorem dX9_night_127 : decode cX9_night 127 = .ok (.goto 10, 3) := by decide +kernel
theorem dX9_night_130 : decode cX9_night 130 = .ok (.aload_n 0, 1) := by decide +kernel
theorem dX9_night_131 : decode cX9_night 131 = .ok (.getfield 118, 3) := by decide +kernel
theorem dX9_night_134 : decode cX9_night 134 = .ok (.invokestatic 211, 3) := by decide +kernel
theorem dX9_night_137 : decode cX9_night 137 = .ok (.ireturn, 1) := by decide +kernel
theorem dX9_pass_0 : decode cX9_pass 0 = .ok (.aload_n 0, 1) := by decide +kernel
theorem dX9_pass_1 : decode cX9_pass 1 = .ok (.getfield 247, 3) := by decide +kernel
theorem dX9_pass_4 : decode cX9_pass 4 = .ok (.ifCond .eq 7, 3) := by decide +kernel
theorem dX9_pass_7 : decode cX9_pass 7 = .ok (.iload_n 1, 1) := by decide +kernel
theorem dX9_pass_8 : decode cX9_pass 8 = .ok (.goto 12, 3) := by decide +kernel
theorem dX9_pass_11 : decode cX9_pass 11 = .ok (.aload_n 0, 1) := by decide +kernel
theorem dX9_pass_12 : decode cX9_pass 12 = .ok (.getfield 40, 3) := by decide +kernel
theorem dX9_pass_15 : decode cX9_pass 15 = .ok (.aload_n 0, 1) := by decide +kernel
theorem dX9_pass_16 : decode cX9_pass 16 = .ok (.getfield 250, 3) := by decide +kernel
theorem dX9_pass_19 : decode cX9_pass 19 = .ok (.iaload, 1) := by decide +kernel
theorem dX9_pass_20 : decode cX9_pass 20 = .ok (.istore_n 2, 1) := by decide +kernel
theorem dX9_pass_21 : decode cX9_pass 21 = .ok (.aload_n 0, 1) := by decide +kernel
theorem dX9_pass_22 : decode cX9_pass 22 = .ok (.getfield 40, 3) := by decide +kernel
theorem dX9_pass_25 : decode cX9_pass 25 = .ok (.aload_n 0, 1) := by decide +kernel
theorem dX9_pass_26 : decode cX9_pass 26 = .ok (.getfield 250, 3) := by decide +kernel
theorem dX9_pass_29 : decode cX9_pass 29 = .ok (.iload_n 2, 1) := by decide +kernel
theorem dX9_pass_30 : decode cX9_pass 30 = .ok (.iastore, 1) := by decide +kernel
theorem dX9_pass_31 : decode cX9_pass 31 = .ok (.aload_n 0, 1) := by decide +kernel
theorem dX9_pass_32 : decode cX9_pass 32 = .ok (.dup, 1) := by decide +kernel
theorem dX9_pass_33 : decode cX9_pass 33 = .ok (.getfield 250, 3) := by decide +kernel
theorem dX9_pass_36 : decode cX9_pass 36 = .ok (.iconst 1, 1) := by decide +kernel
theorem dX9_pass_37 : decode cX9_pass 37 = .ok (.iadd, 1) := by decide +kernel
theorem dX9_pass_38 : decode cX9_pass 38 = .ok (.putfield 250, 3) := by decide +kernel
theorem dX9_pass_41 : decode cX9_pass 41 = .ok (.iload_n 2, 1) := by decide +kernel
theorem dX9_pass_42 : decode cX9_pass 42 = .ok (.ireturn, 1) := by decide +kernel
set_option maxRecDepth 20000 in
theorem ggX9_passAll_X9_pass : GoodIn wsX9_passAll wsX9_pass := goodIn_r _ [15, 16, 17, 18, 19, 20, 21, 22, 23, 24, 25, 26, 27, 28, 29, 30, 31, 32, 33, 34, 35, 36, 37, 38, 39, 40, 41, 42, 43, 44, 45, 46, 47, 48, 49, 50] (by decide +kernel) (by decide +kernel)
set_option maxRecDepth 20000 in
theorem gX9_passAll_X9_pass : GoodIn wsX9_passAll (wsV RX9 253 RX9 yX9_pass wsX9_pass) := goodIn_app (goodIn_of _ (by decide +kernel)) ggX9_passAll_X9_pass
theorem dX9_passAll_0 : decode cX9_passAll 0 = .ok (.aload_n 0, 1) := by decide +kernel
theorem dX9_passAll_1 : decode cX9_passAll 1 = .ok (.aload_n 0, 1) := by decide +kernel
theorem dX9_passAll_2 : decode cX9_passAll 2 = .ok (.aload_n 0, 1) := by decide +kernel
theorem dX9_passAll_3 : decode cX9_passAll 3 = .ok (.getfield 55, 3) := by decide +kernel
theorem dX9_passAll_6 : decode cX9_passAll 6 = .ok (.invokevirtual 253, 3) := by decide +kernel
theorem dX9_passAll_9 : decode cX9_passAll 9 = .ok (.putfield 55, 3) := by decide +kernel
theorem dX9_passAll_12 : decode cX9_passAll 12 = .ok (.aload_n 0, 1) := by decide +kernel
theorem dX9_passAll_13 : decode cX9_passAll 13 = .ok (.aload_n 0, 1) := by decide +kernel
theorem dX9_passAll_14 : decode cX9_passAll 14 = .ok (.aload_n 0, 1) := by decide +kernel
theorem dX9_passAll_15 : decode cX9_passAll 15 = .ok (.getfield 58, 3) := by decide +kernel
theorem dX9_passAll_18 : decode cX9_passAll 18 = .ok (.invokevirtual 253, 3) := by decide +kernel
theorem dX9_passAll_21 : decode cX9_passAll 21 = .ok (.putfield 58, 3) := by decide +kernel
theorem dX9_passAll_24 : decode cX9_passAll 24 = .ok (.aload_n 0, 1) := by decide +kernel
theorem dX9_passAll_25 : decode cX9_passAll 25 = .ok (.aload_n 0, 1) := by decide +kernel
theorem dX9_passAll_26 : decode cX9_passAll 26 = .ok (.aload_n 0, 1) := by decide +kernel
theorem dX9_passAll_27 : decode cX9_passAll 27 = .ok (.getfield 61, 3) := by decide +kernel
theorem dX9_passAll_30 : decode cX9_passAll 30 = .ok (.invokevirtual 253, 3) := by decide +kernel
theorem dX9_passAll_33 : decode cX9_passAll 33 = .ok (.putfield 61, 3) := by decide +kernel
theorem dX9_passAll_36 : decode cX9_passAll 36 = .ok (.aload_n 0, 1) := by decide +kernel
theorem dX9_passAll_37 : decode cX9_passAll 37 = .ok (.aload_n 0, 1) := by decide +kernel
theorem dX9_passAll_38 : decode cX9_passAll 38 = .ok (.aload_n 0, 1) := by decide +kernel
theorem dX9_passAll_39 : decode cX9_passAll 39 = .ok (.getfield 64, 3) := by decide +kernel
theorem dX9_passAll_42 : decode cX9_passAll 42 = .ok (.invokevirtual 253, 3) := by decide +kernel
theorem dX9_passAll_45 : decode cX9_passAll 45 = .ok (.putfield 64, 3) := by decide +kernel
theorem dX9_passAll_48 : decode cX9_passAll 48 = .ok (.aload_n 0, 1) := by decide +kernel
theorem dX9_passAll_49 : decode cX9_passAll 49 = .ok (.aload_n 0, 1) := by decide +kernel
theorem dX9_passAll_50 : decode cX9_passAll 50 = .ok (.aload_n 0, 1) := by decide +kernel
theorem dX9_passAll_51 : decode cX9_passAll 51 = .ok (.getfield 67, 3) := by decide +kernel
theorem dX9_passAll_54 : decode cX9_passAll 54 = .ok (.invokevirtual 253, 3) := by decide +kernel
theorem dX9_passAll_57 : decode cX9_passAll 57 = .ok (.putfield 67, 3) := by decide +kernel
theorem dX9_passAll_60 : decode cX9_passAll 60 = .ok (.aload_n 0, 1) := by decide +kernel
theorem dX9_passAll_61 : decode cX9_passAll 61 = .ok (.aload_n 0, 1) := by decide +kernel
theorem dX9_passAll_62 : decode cX9_passAll 62 = .ok (.aload_n 0, 1) := by decide +kernel
theorem dX9_passAll_63 : decode cX9_passAll 63 = .ok (.getfield 47, 3) := by decide +kernel
theorem dX9_passAll_66 : decode cX9_passAll 66 = .ok (.invokevirtual 253, 3) := by decide +kernel
theorem dX9_passAll_69 : decode cX9_passAll 69 = .ok (.putfield 47, 3) := by decide +kernel
theorem dX9_passAll_72 : decode cX9_passAll 72 = .ok (.iconst 0, 1) := by decide +kernel
theorem dX9_passAll_73 : decode cX9_passAll 73 = .ok (.istore_n 1, 1) := by decide +kernel
theorem dX9_passAll_74 : decode cX9_passAll 74 = .ok (.iload_n 1, 1) := by decide +kernel
theorem dX9_passAll_75 : decode cX9_passAll 75 = .ok (.bipush 16, 2) := by decide +kernel
theorem dX9_passAll_77 : decode cX9_passAll 77 = .ok (.if_icmp .ge 25, 3) := by decide +kernel
theorem dX9_passAll_80 : decode cX9_passAll 80 = .ok (.aload_n 0, 1) := by decide +kernel
theorem dX9_passAll_81 : decode cX9_passAll 81 = .ok (.getfield 7, 3) := by decide +kernel
theorem dX9_passAll_84 : decode cX9_passAll 84 = .ok (.iload_n 1, 1) := by decide +kernel
theorem dX9_passAll_85 : decode cX9_passAll 85 = .ok (.aload_n 0, 1) := by decide +kernel
theorem dX9_passAll_86 : decode cX9_passAll 86 = .ok (.aload_n 0, 1) := by decide +kernel
theorem dX9_passAll_87 : decode cX9_passAll 87 = .ok (.getfield 7, 3) := by decide +kernel
theorem dX9_passAll_90 : decode cX9_passAll 90 = .ok (.iload_n 1, 1) := by decide +kernel
theorem dX9_passAll_91 : decode cX9_passAll 91 = .ok (.iaload, 1) := by decide +kernel
theorem dX9_passAll_92 : decode cX9_passAll 92 = .ok (.invokevirtual 253, 3) := by decide +kernel
theorem dX9_passAll_95 : decode cX9_passAll 95 = .ok (.iastore, 1) := by decide +kernel
theorem dX9_passAll_96 : decode cX9_passAll 96 = .ok (.iinc 1 1, 3) := by decide +kernel
theorem dX9_passAll_99 : decode cX9_passAll 99 = .ok (.goto (-25), 3) := by decide +kernel
theorem dX9_passAll_102 : decode cX9_passAll 102 = .ok (.iconst 0, 1) := by decide +kernel
theorem dX9_passAll_103 : decode cX9_passAll 103 = .ok (.istore_n 1, 1) := by decide +kernel
theorem dX9_passAll_104 : decode cX9_passAll 104 = .ok (.iload_n 1, 1) := by decide +kernel
theorem dX9_passAll_105 : decode cX9_passAll 105 = .ok (.iconst 4, 1) := by decide +kernel
theorem dX9_passAll_106 : decode cX9_passAll 106 = .ok (.if_icmp .ge 57, 3) := by decide +kernel
theorem dX9_passAll_109 : decode cX9_passAll 109 = .ok (.aload_n 0, 1) := by decide +kernel
theorem dX9_passAll_110 : decode cX9_passAll 110 = .ok (.getfield 13, 3) := by decide +kernel
theorem dX9_passAll_113 : decode cX9_passAll 113 = .ok (.iload_n 1, 1) := by decide +kernel
theorem dX9_passAll_114 : decode cX9_passAll 114 = .ok (.aload_n 0, 1) := by decide +kernel
theorem dX9_passAll_115 : decode cX9_passAll 115 = .ok (.aload_n 0, 1) := by decide +kernel
theorem dX9_passAll_116 : decode cX9_passAll 116 = .ok (.getfield 13, 3) := by decide +kernel
theorem dX9_passAll_119 : decode cX9_passAll 119 = .ok (.iload_n 1, 1) := by decide +kernel
theorem dX9_passAll_120 : decode cX9_passAll 120 = .ok (.iaload, 1) := by decide +kernel
theorem dX9_passAll_121 : decode cX9_passAll 121 = .ok (.invokevirtual 253, 3) := by decide +kernel
theorem dX9_passAll_124 : decode cX9_passAll 124 = .ok (.iastore, 1) := by decide +kernel
theorem dX9_passAll_125 : decode cX9_passAll 125 = .ok (.aload_n 0, 1) := by decide +kernel
theorem dX9_passAll_126 : decode cX9_passAll 126 = .ok (.getfield 16, 3) := by decide +kernel
theorem dX9_passAll_129 : decode cX9_passAll 129 = .ok (.iload_n 1, 1) := by decide +kernel
theorem dX9_passAll_130 : decode cX9_passAll 130 = .ok (.aload_n 0, 1) := by decide +kernel
theorem dX9_passAll_131 : decode cX9_passAll 131 = .ok (.aload_n 0, 1) := by decide +kernel
theorem dX9_passAll_132 : decode cX9_passAll 132 = .ok (.getfield 16, 3) := by decide +kernel
theorem dX9_passAll_135 : decode cX9_passAll 135 = .ok (.iload_n 1, 1) := by decide +kernel
theorem dX9_passAll_136 : decode cX9_passAll 136 = .ok (.iaload, 1) := by decide +kernel
theorem dX9_passAll_137 : decode cX9_passAll 137 = .ok (.invokevirtual 253, 3) := by decide +kernel
theorem dX9_passAll_140 : decode cX9_passAll 140 = .ok (.iastore, 1) := by decide +kernel
theorem dX9_passAll_141 : decode cX9_passAll 141 = .ok (.aload_n 0, 1) := by decide +kernel
theorem dX9_passAll_142 : decode cX9_passAll 142 = .ok (.getfield 19, 3) := by decide +kernel
theorem dX9_passAll_145 : decode cX9_passAll 145 = .ok (.iload_n 1, 1) := by decide +kernel
theorem dX9_passAll_146 : decode cX9_passAll 146 = .ok (.aload_n 0, 1) := by decide +kernel
theorem dX9_passAll_147 : decode cX9_passAll 147 = .ok (.aload_n 0, 1) := by decide +kernel
theorem dX9_passAll_148 : decode cX9_passAll 148 = .ok (.getfield 19, 3) := by decide +kernel
theorem dX9_passAll_151 : decode cX9_passAll 151 = .ok (.iload_n 1, 1) := by decide +kernel
theorem dX9_passAll_152 : decode cX9_passAll 152 = .ok (.iaload, 1) := by decide +kernel
theorem dX9_passAll_153 : decode cX9_passAll 153 = .ok (.invokevirtual 253, 3) := by decide +kernel
theorem dX9_passAll_156 : decode cX9_passAll 156 = .ok (.iastore, 1) := by decide +kernel
theorem dX9_passAll_157 : decode cX9_passAll 157 = .ok (.iinc 1 1, 3) := by decide +kernel
theorem dX9_passAll_160 : decode cX9_passAll 160 = .ok (.goto (-56), 3) := by decide +kernel
theorem dX9_passAll_163 : decode cX9_passAll 163 = .ok (.return_, 1) := by decide +kernel
set_option maxRecDepth 20000 in
theorem ggX9_image_X9_in : GoodIn wsX9_image wsX9_in := goodIn_r _ [7] (by decide +kernel) (by decide +kernel)
set_option maxRecDepth 20000 in
theorem gX9_image_X9_in : GoodIn wsX9_image (va_wsS RX9 74 yX9_in wsX9_in) := goodIn_app (goodIn_of _ (by decide +kernel)) ggX9_image_X9_in
set_option maxRecDepth 20000 in
theorem ggX9_image_X9_passAll : GoodIn wsX9_image wsX9_passAll := goodIn_r _ [11, 12, 13, 14, 15, 16, 17, 18, 19, 20, 21, 22, 23, 24, 6, 25, 2, 26, 1, 27, 28, 29, 30, 31, 32, 33, 34, 35, 36, 37, 38, 39, 40, 41, 42, 43, 44, 45, 46, 47, 48, 49, 50, 51, 52, 53, 54, 55, 56, 57, 58] (by decide +kernel) (by decide +kernel)
set_option maxRecDepth 20000 in
theorem gX9_image_X9_passAll : GoodIn wsX9_image (wsV RX9 256 RX9 yX9_passAll wsX9_passAll) := goodIn_app (goodIn_of _ (by decide +kernel)) ggX9_image_X9_passAll
theorem dX9_image_0 : decode cX9_image 0 = .ok (.iload_n 1, 1) := by decide +kernel
theorem dX9_image_1 : decode cX9_image 1 = .ok (.i2l, 1) := by decide +kernel
theorem dX9_image_2 : decode cX9_image 2 = .ok (.lconst 0, 1) := by decide +kernel
theorem dX9_image_3 : decode cX9_image 3 = .ok (.lconst 1, 1) := by decide +kernel
theorem dX9_image_4 : decode cX9_image 4 = .ok (.invokestatic 74, 3) := by decide +kernel
theorem dX9_image_7 : decode cX9_image 7 = .ok (.ifCond .ne 6, 3) := by decide +kernel
theorem dX9_image_10 : decode cX9_image 10 = .ok (.bipush (-2), 2) := by decide +kernel
theorem dX9_image_12 : decode cX9_image 12 = .ok (.ireturn, 1) := by decide +kernel
theorem dX9_image_13 : decode cX9_image 13 = .ok (.aload_n 0, 1) := by decide +kernel
theorem dX9_image_14 : decode cX9_image 14 = .ok (.bipush 40, 2) := by decide +kernel
theorem dX9_image_16 : decode cX9_image 16 = .ok (.iload_n 1, 1) := by decide +kernel
theorem dX9_image_17 : decode cX9_image 17 = .ok (.imul, 1) := by decide +kernel
theorem dX9_image_18 : decode cX9_image 18 = .ok (.putfield 250, 3) := by decide +kernel
theorem dX9_image_21 : decode cX9_image 21 = .ok (.aload_n 0, 1) := by decide +kernel
theorem dX9_image_22 : decode cX9_image 22 = .ok (.iconst 1, 1) := by decide +kernel
theorem dX9_image_23 : decode cX9_image 23 = .ok (.putfield 247, 3) := by decide +kernel
theorem dX9_image_26 : decode cX9_image 26 = .ok (.aload_n 0, 1) := by decide +kernel
theorem dX9_image_27 : decode cX9_image 27 = .ok (.invokevirtual 256, 3) := by decide +kernel
theorem dX9_image_30 : decode cX9_image 30 = .ok (.aload_n 0, 1) := by decide +kernel
theorem dX9_image_31 : decode cX9_image 31 = .ok (.getfield 43, 3) := by decide +kernel
theorem dX9_image_34 : decode cX9_image 34 = .ok (.iload_n 1, 1) := by decide +kernel
theorem dX9_image_35 : decode cX9_image 35 = .ok (.iconst 1, 1) := by decide +kernel
theorem dX9_image_36 : decode cX9_image 36 = .ok (.bastore, 1) := by decide +kernel
theorem dX9_image_37 : decode cX9_image 37 = .ok (.iconst 1, 1) := by decide +kernel
theorem dX9_image_38 : decode cX9_image 38 = .ok (.ireturn, 1) := by decide +kernel
set_option maxRecDepth 20000 in
theorem ggX9_restore_X9_in : GoodIn wsX9_restore wsX9_in := goodIn_r _ [7] (by decide +kernel) (by decide +kernel)
set_option maxRecDepth 20000 in
theorem gX9_restore_X9_in : GoodIn wsX9_restore (va_wsS RX9 74 yX9_in wsX9_in) := goodIn_app (goodIn_of _ (by decide +kernel)) ggX9_restore_X9_in
set_option maxRecDepth 20000 in
theorem ggX9_restore_X9_passAll : GoodIn wsX9_restore wsX9_passAll := goodIn_r _ [11, 12, 13, 14, 15, 16, 17, 18, 19, 20, 21, 22, 23, 24, 6, 25, 3, 26, 2, 27, 28, 29, 30, 31, 32, 33, 34, 35, 36, 37, 38, 39, 40, 41, 42, 43, 44, 45, 46, 47, 48, 49, 50, 51, 52, 53, 54, 55, 56, 57, 58] (by decide +kernel) (by decide +kernel)
set_option maxRecDepth 20000 in
theorem gX9_restore_X9_passAll : GoodIn wsX9_restore (wsV RX9 256 RX9 yX9_passAll wsX9_passAll) := goodIn_app (goodIn_of _ (by decide +kernel)) ggX9_restore_X9_passAll
theorem dX9_restore_0 : decode cX9_restore 0 = .ok (.iload_n 1, 1) := by decide +kernel
theorem dX9_restore_1 : decode cX9_restore 1 = .ok (.i2l, 1) := by decide +kernel
theorem dX9_restore_2 : decode cX9_restore 2 = .ok (.lconst 0, 1) := by decide +kernel
theorem dX9_restore_3 : decode cX9_restore 3 = .ok (.lconst 1, 1) := by decide +kernel
theorem dX9_restore_4 : decode cX9_restore 4 = .ok (.invokestatic 74, 3) := by decide +kernel
theorem dX9_restore_7 : decode cX9_restore 7 = .ok (.ifCond .ne 6, 3) := by decide +kernel
theorem dX9_restore_10 : decode cX9_restore 10 = .ok (.bipush (-2), 2) := by decide +kernel
theorem dX9_restore_12 : decode cX9_restore 12 = .ok (.ireturn, 1) := by decide +kernel
theorem dX9_restore_13 : decode cX9_restore 13 = .ok (.aload_n 0, 1) := by decide +kernel
theorem dX9_restore_14 : decode cX9_restore 14 = .ok (.getfield 43, 3) := by decide +kernel
theorem dX9_restore_17 : decode cX9_restore 17 = .ok (.iload_n 1, 1) := by decide +kernel
theorem dX9_restore_18 : decode cX9_restore 18 = .ok (.baload, 1) := by decide +kernel
theorem dX9_restore_19 : decode cX9_restore 19 = .ok (.ifCond .ne 6, 3) := by decide +kernel
theorem dX9_restore_22 : decode cX9_restore 22 = .ok (.bipush (-3), 2) := by decide +kernel
theorem dX9_restore_24 : decode cX9_restore 24 = .ok (.ireturn, 1) := by decide +kernel
theorem dX9_restore_25 : decode cX9_restore 25 = .ok (.aload_n 0, 1) := by decide +kernel
theorem dX9_restore_26 : decode cX9_restore 26 = .ok (.bipush 40, 2) := by decide +kernel
theorem dX9_restore_28 : decode cX9_restore 28 = .ok (.iload_n 1, 1) := by decide +kernel
theorem dX9_restore_29 : decode cX9_restore 29 = .ok (.imul, 1) := by decide +kernel
theorem dX9_restore_30 : decode cX9_restore 30 = .ok (.putfield 250, 3) := by decide +kernel
theorem dX9_restore_33 : decode cX9_restore 33 = .ok (.aload_n 0, 1) := by decide +kernel
theorem dX9_restore_34 : decode cX9_restore 34 = .ok (.iconst 0, 1) := by decide +kernel
theorem dX9_restore_35 : decode cX9_restore 35 = .ok (.putfield 247, 3) := by decide +kernel
theorem dX9_restore_38 : decode cX9_restore 38 = .ok (.aload_n 0, 1) := by decide +kernel
theorem dX9_restore_39 : decode cX9_restore 39 = .ok (.invokevirtual 256, 3) := by decide +kernel
theorem dX9_restore_42 : decode cX9_restore 42 = .ok (.iconst 1, 1) := by decide +kernel
theorem dX9_restore_43 : decode cX9_restore 43 = .ok (.ireturn, 1) := by decide +kernel
set_option maxRecDepth 20000 in
theorem ggX9_told_X9_in : GoodIn wsX9_told wsX9_in := goodIn_r _ [16] (by decide +kernel) (by decide +kernel)
set_option maxRecDepth 20000 in
theorem gX9_told_X9_in : GoodIn wsX9_told (va_wsS RX9 74 yX9_in wsX9_in) := goodIn_app (goodIn_of _ (by decide +kernel)) ggX9_told_X9_in
theorem dX9_told_0 : decode cX9_told 0 = .ok (.iload_n 1, 1) := by decide +kernel
theorem dX9_told_1 : decode cX9_told 1 = .ok (.i2l, 1) := by decide +kernel
theorem dX9_told_2 : decode cX9_told 2 = .ok (.ldc2_w 223, 3) := by decide +kernel
theorem dX9_told_5 : decode cX9_told 5 = .ok (.ldc2_w 259, 3) := by decide +kernel
theorem dX9_told_8 : decode cX9_told 8 = .ok (.invokestatic 74, 3) := by decide +kernel
theorem dX9_told_11 : decode cX9_told 11 = .ok (.ifCond .eq 67, 3) := by decide +kernel
theorem dX9_told_14 : decode cX9_told 14 = .ok (.iload_n 1, 1) := by decide +kernel
theorem dX9_told_15 : decode cX9_told 15 = .ok (.bipush 10, 2) := by decide +kernel
theorem dX9_told_17 : decode cX9_told 17 = .ok (.idiv, 1) := by decide +kernel
theorem dX9_told_18 : decode cX9_told 18 = .ok (.iconst 1, 1) := by decide +kernel
theorem dX9_told_19 : decode cX9_told 19 = .ok (.isub, 1) := by decide +kernel
theorem dX9_told_20 : decode cX9_told 20 = .ok (.istore_n 2, 1) := by decide +kernel
theorem dX9_told_21 : decode cX9_told 21 = .ok (.iload_n 1, 1) := by decide +kernel
theorem dX9_told_22 : decode cX9_told 22 = .ok (.bipush 10, 2) := by decide +kernel
theorem dX9_told_24 : decode cX9_told 24 = .ok (.irem, 1) := by decide +kernel
theorem dX9_told_25 : decode cX9_told 25 = .ok (.istore_n 3, 1) := by decide +kernel
theorem dX9_told_26 : decode cX9_told 26 = .ok (.iload_n 2, 1) := by decide +kernel
theorem dX9_told_27 : decode cX9_told 27 = .ok (.aload_n 0, 1) := by decide +kernel
theorem dX9_told_28 : decode cX9_told 28 = .ok (.getfield 67, 3) := by decide +kernel
theorem dX9_told_31 : decode cX9_told 31 = .ok (.if_icmp .ge 8, 3) := by decide +kernel
theorem dX9_told_34 : decode cX9_told 34 = .ok (.iload_n 3, 1) := by decide +kernel
theorem dX9_told_35 : decode cX9_told 35 = .ok (.iconst 2, 1) := by decide +kernel
theorem dX9_told_36 : decode cX9_told 36 = .ok (.if_icmp .le 8, 3) := by decide +kernel
theorem dX9_told_39 : decode cX9_told 39 = .ok (.bipush (-2), 2) := by decide +kernel
theorem dX9_told_41 : decode cX9_told 41 = .ok (.goto 36, 3) := by decide +kernel
theorem dX9_told_44 : decode cX9_told 44 = .ok (.iload_n 3, 1) := by decide +kernel
theorem dX9_told_45 : decode cX9_told 45 = .ok (.ifCond .ne 12, 3) := by decide +kernel
theorem dX9_told_48 : decode cX9_told 48 = .ok (.aload_n 0, 1) := by decide +kernel
theorem dX9_told_49 : decode cX9_told 49 = .ok (.getfield 13, 3) := by decide +kernel
theorem dX9_told_52 : decode cX9_told 52 = .ok (.iload_n 2, 1) := by decide +kernel
theorem dX9_told_53 : decode cX9_told 53 = .ok (.iaload, 1) := by decide +kernel
theorem dX9_told_54 : decode cX9_told 54 = .ok (.goto 23, 3) := by decide +kernel
theorem dX9_told_57 : decode cX9_told 57 = .ok (.iload_n 3, 1) := by decide +kernel
theorem dX9_told_58 : decode cX9_told 58 = .ok (.iconst 1, 1) := by decide +kernel
theorem dX9_told_59 : decode cX9_told 59 = .ok (.if_icmp .ne 12, 3) := by decide +kernel
theorem dX9_told_62 : decode cX9_told 62 = .ok (.aload_n 0, 1) := by decide +kernel
theorem dX9_told_63 : decode cX9_told 63 = .ok (.getfield 16, 3) := by decide +kernel
theorem dX9_told_66 : decode cX9_told 66 = .ok (.iload_n 2, 1) := by decide +kernel
theorem dX9_told_67 : decode cX9_told 67 = .ok (.iaload, 1) := by decide +kernel
theorem dX9_told_68 : decode cX9_told 68 = .ok (.goto 9, 3) := by decide +kernel
theorem dX9_told_71 : decode cX9_told 71 = .ok (.aload_n 0, 1) := by decide +kernel
theorem dX9_told_72 : decode cX9_told 72 = .ok (.getfield 19, 3) := by decide +kernel
theorem dX9_told_75 : decode cX9_told 75 = .ok (.iload_n 2, 1) := by decide +kernel
theorem dX9_told_76 : decode cX9_told 76 = .ok (.iaload, 1) := by decide +kernel
theorem dX9_told_77 : decode cX9_told 77 = .ok (.ireturn, 1) := by decide +kernel
theorem dX9_told_78 : decode cX9_told 78 = .ok (.iload_n 1, 1) := by decide +kernel
theorem dX9_told_79 : decode cX9_told 79 = .ok (.tableswitch 76 0 6 #[41, 46, 51, 56, 61, 66, 71], 41) := by decide +kernel
theorem dX9_told_120 : decode cX9_told 120 = .ok (.aload_n 0, 1) := by decide +kernel
theorem dX9_told_121 : decode cX9_told 121 = .ok (.getfield 84, 3) := by decide +kernel
theorem dX9_told_124 : decode cX9_told 124 = .ok (.ireturn, 1) := by decide +kernel
theorem dX9_told_125 : decode cX9_told 125 = .ok (.aload_n 0, 1) := by decide +kernel
theorem dX9_told_126 : decode cX9_told 126 = .ok (.getfield 55, 3) := by decide +kernel
theorem dX9_told_129 : decode cX9_told 129 = .ok (.ireturn, 1) := by decide +kernel
theorem dX9_told_130 : decode cX9_told 130 = .ok (.aload_n 0, 1) := by decide +kernel
theorem dX9_told_131 : decode cX9_told 131 = .ok (.getfield 58, 3) := by decide +kernel
theorem dX9_told_134 : decode cX9_told 134 = .ok (.ireturn, 1) := by decide +kernel
theorem dX9_told_135 : decode cX9_told 135 = .ok (.aload_n 0, 1) := by decide +kernel
theorem dX9_told_136 : decode cX9_told 136 = .ok (.getfield 61, 3) := by decide +kernel
theorem dX9_told_139 : decode cX9_told 139 = .ok (.ireturn, 1) := by decide +kernel
theorem dX9_told_140 : decode cX9_told 140 = .ok (.aload_n 0, 1) := by decide +kernel
theorem dX9_told_141 : decode cX9_told 141 = .ok (.getfield 64, 3) := by decide +kernel
theorem dX9_told_144 : decode cX9_told 144 = .ok (.ireturn, 1) := by decide +kernel
theorem dX9_told_145 : decode cX9_told 145 = .ok (.aload_n 0, 1) := by decide +kernel
theorem dX9_told_146 : decode cX9_told 146 = .ok (.getfield 67, 3) := by decide +kernel
theorem dX9_told_149 : decode cX9_told 149 = .ok (.ireturn, 1) := by decide +kernel
theorem dX9_told_150 : decode cX9_told 150 = .ok (.aload_n 0, 1) := by decide +kernel
theorem dX9_told_151 : decode cX9_told 151 = .ok (.getfield 47, 3) := by decide +kernel
theorem dX9_told_154 : decode cX9_told 154 = .ok (.ireturn, 1) := by decide +kernel
theorem dX9_told_155 : decode cX9_told 155 = .ok (.bipush (-2), 2) := by decide +kernel
theorem dX9_told_157 : decode cX9_told 157 = .ok (.ireturn, 1) := by decide +kernel
theorem dJ11_isValidCodePoint_9a6ad_0 : decode cJ11_isValidCodePoint_9a6ad 0 = .ok (.iload_n 0, 1) := by decide +kernel
theorem dJ11_isValidCodePoint_9a6ad_1 : decode cJ11_isValidCodePoint_9a6ad 1 = .ok (.bipush 16, 2) := by decide +kernel
theorem dJ11_isValidCodePoint_9a6ad_3 : decode cJ11_isValidCodePoint_9a6ad 3 = .ok (.iushr, 1) := by decide +kernel
theorem dJ11_isValidCodePoint_9a6ad_4 : decode cJ11_isValidCodePoint_9a6ad 4 = .ok (.istore_n 1, 1) := by decide +kernel
theorem dJ11_isValidCodePoint_9a6ad_5 : decode cJ11_isValidCodePoint_9a6ad 5 = .ok (.iload_n 1, 1) := by decide +kernel
theorem dJ11_isValidCodePoint_9a6ad_6 : decode cJ11_isValidCodePoint_9a6ad 6 = .ok (.bipush 17, 2) := by decide +kernel
theorem dJ11_isValidCodePoint_9a6ad_8 : decode cJ11_isValidCodePoint_9a6ad 8 = .ok (.if_icmp .ge 7, 3) := by decide +kernel
theorem dJ11_isValidCodePoint_9a6ad_11 : decode cJ11_isValidCodePoint_9a6ad 11 = .ok (.iconst 1, 1) := by decide +kernel
theorem dJ11_isValidCodePoint_9a6ad_12 : decode cJ11_isValidCodePoint_9a6ad 12 = .ok (.goto 4, 3) := by decide +kernel
theorem dJ11_isValidCodePoint_9a6ad_15 : decode cJ11_isValidCodePoint_9a6ad 15 = .ok (.iconst 0, 1) := by decide +kernel
theorem dJ11_isValidCodePoint_9a6ad_16 : decode cJ11_isValidCodePoint_9a6ad 16 = .ok (.ireturn, 1) := by decide +kernel
theorem dJ11_highSurrogate_5068e_0 : decode cJ11_highSurrogate_5068e 0 = .ok (.iload_n 0, 1) := by decide +kernel
theorem dJ11_highSurrogate_5068e_1 : decode cJ11_highSurrogate_5068e 1 = .ok (.bipush 10, 2) := by decide +kernel
theorem dJ11_highSurrogate_5068e_3 : decode cJ11_highSurrogate_5068e 3 = .ok (.iushr, 1) := by decide +kernel
theorem dJ11_highSurrogate_5068e_4 : decode cJ11_highSurrogate_5068e 4 = .ok (.ldc 110, 2) := by decide +kernel
theorem dJ11_highSurrogate_5068e_6 : decode cJ11_highSurrogate_5068e 6 = .ok (.iadd, 1) := by decide +kernel
theorem dJ11_highSurrogate_5068e_7 : decode cJ11_highSurrogate_5068e 7 = .ok (.i2c, 1) := by decide +kernel
theorem dJ11_highSurrogate_5068e_8 : decode cJ11_highSurrogate_5068e 8 = .ok (.ireturn, 1) := by decide +kernel
theorem dJ11_lowSurrogate_5068e_0 : decode cJ11_lowSurrogate_5068e 0 = .ok (.iload_n 0, 1) := by decide +kernel
theorem dJ11_lowSurrogate_5068e_1 : decode cJ11_lowSurrogate_5068e 1 = .ok (.sipush 1023, 3) := by decide +kernel
theorem dJ11_lowSurrogate_5068e_4 : decode cJ11_lowSurrogate_5068e 4 = .ok (.iand, 1) := by decide +kernel
theorem dJ11_lowSurrogate_5068e_5 : decode cJ11_lowSurrogate_5068e 5 = .ok (.ldc 76, 2) := by decide +kernel
theorem dJ11_lowSurrogate_5068e_7 : decode cJ11_lowSurrogate_5068e 7 = .ok (.iadd, 1) := by decide +kernel
theorem dJ11_lowSurrogate_5068e_8 : decode cJ11_lowSurrogate_5068e 8 = .ok (.i2c, 1) := by decide +kernel
theorem dJ11_lowSurrogate_5068e_9 : decode cJ11_lowSurrogate_5068e 9 = .ok (.ireturn, 1) := by decide +kernel
theorem dJ6_bitCount_0f7a4_0 : decode cJ6_bitCount_0f7a4 0 = .ok (.iload_n 0, 1) := by decide +kernel
theorem dJ6_bitCount_0f7a4_1 : decode cJ6_bitCount_0f7a4 1 = .ok (.iload_n 0, 1) := by decide +kernel
theorem dJ6_bitCount_0f7a4_2 : decode cJ6_bitCount_0f7a4 2 = .ok (.iconst 1, 1) := by decide +kernel
theorem dJ6_bitCount_0f7a4_3 : decode cJ6_bitCount_0f7a4 3 = .ok (.iushr, 1) := by decide +kernel
theorem dJ6_bitCount_0f7a4_4 : decode cJ6_bitCount_0f7a4 4 = .ok (.ldc_w 265, 3) := by decide +kernel
theorem dJ6_bitCount_0f7a4_7 : decode cJ6_bitCount_0f7a4 7 = .ok (.iand, 1) := by decide +kernel
theorem dJ6_bitCount_0f7a4_8 : decode cJ6_bitCount_0f7a4 8 = .ok (.isub, 1) := by decide +kernel
theorem dJ6_bitCount_0f7a4_9 : decode cJ6_bitCount_0f7a4 9 = .ok (.istore_n 0, 1) := by decide +kernel
theorem dJ6_bitCount_0f7a4_10 : decode cJ6_bitCount_0f7a4 10 = .ok (.iload_n 0, 1) := by decide +kernel
theorem dJ6_bitCount_0f7a4_11 : decode cJ6_bitCount_0f7a4 11 = .ok (.ldc_w 266, 3) := by decide +kernel
theorem dJ6_bitCount_0f7a4_14 : decode cJ6_bitCount_0f7a4 14 = .ok (.iand, 1) := by decide +kernel
theorem dJ6_bitCount_0f7a4_15 : decode cJ6_bitCount_0f7a4 15 = .ok (.iload_n 0, 1) := by decide +kernel
theorem dJ6_bitCount_0f7a4_16 : decode cJ6_bitCount_0f7a4 16 = .ok (.iconst 2, 1) := by decide +kernel
theorem dJ6_bitCount_0f7a4_17 : decode cJ6_bitCount_0f7a4 17 = .ok (.iushr, 1) := by decide +kernel
theorem dJ6_bitCount_0f7a4_18 : decode cJ6_bitCount_0f7a4 18 = .ok (.ldc_w 266, 3) := by decide +kernel
theorem dJ6_bitCount_0f7a4_21 : decode cJ6_bitCount_0f7a4 21 = .ok (.iand, 1) := by decide +kernel
theorem dJ6_bitCount_0f7a4_22 : decode cJ6_bitCount_0f7a4 22 = .ok (.iadd, 1) := by decide +kernel
theorem dJ6_bitCount_0f7a4_23 : decode cJ6_bitCount_0f7a4 23 = .ok (.istore_n 0, 1) := by decide +kernel
theorem dJ6_bitCount_0f7a4_24 : decode cJ6_bitCount_0f7a4 24 = .ok (.iload_n 0, 1) := by decide +kernel
theorem dJ6_bitCount_0f7a4_25 : decode cJ6_bitCount_0f7a4 25 = .ok (.iload_n 0, 1) := by decide +kernel
theorem dJ6_bitCount_0f7a4_26 : decode cJ6_bitCount_0f7a4 26 = .ok (.iconst 4, 1) := by decide +kernel
theorem dJ6_bitCount_0f7a4_27 : decode cJ6_bitCount_0f7a4 27 = .ok (.iushr, 1) := by decide +kernel
theorem dJ6_bitCount_0f7a4_28 : decode cJ6_bitCount_0f7a4 28 = .ok (.iadd, 1) := by decide +kernel
theorem dJ6_bitCount_0f7a4_29 : decode cJ6_bitCount_0f7a4 29 = .ok (.ldc_w 267, 3) := by decide +kernel
theorem dJ6_bitCount_0f7a4_32 : decode cJ6_bitCount_0f7a4 32 = .ok (.iand, 1) := by decide +kernel
theorem dJ6_bitCount_0f7a4_33 : decode cJ6_bitCount_0f7a4 33 = .ok (.istore_n 0, 1) := by decide +kernel
theorem dJ6_bitCount_0f7a4_34 : decode cJ6_bitCount_0f7a4 34 = .ok (.iload_n 0, 1) := by decide +kernel
theorem dJ6_bitCount_0f7a4_35 : decode cJ6_bitCount_0f7a4 35 = .ok (.iload_n 0, 1) := by decide +kernel
theorem dJ6_bitCount_0f7a4_36 : decode cJ6_bitCount_0f7a4 36 = .ok (.bipush 8, 2) := by decide +kernel
theorem dJ6_bitCount_0f7a4_38 : decode cJ6_bitCount_0f7a4 38 = .ok (.iushr, 1) := by decide +kernel
theorem dJ6_bitCount_0f7a4_39 : decode cJ6_bitCount_0f7a4 39 = .ok (.iadd, 1) := by decide +kernel
theorem dJ6_bitCount_0f7a4_40 : decode cJ6_bitCount_0f7a4 40 = .ok (.istore_n 0, 1) := by decide +kernel
theorem dJ6_bitCount_0f7a4_41 : decode cJ6_bitCount_0f7a4 41 = .ok (.iload_n 0, 1) := by decide +kernel
theorem dJ6_bitCount_0f7a4_42 : decode cJ6_bitCount_0f7a4 42 = .ok (.iload_n 0, 1) := by decide +kernel
theorem dJ6_bitCount_0f7a4_43 : decode cJ6_bitCount_0f7a4 43 = .ok (.bipush 16, 2) := by decide +kernel
theorem dJ6_bitCount_0f7a4_45 : decode cJ6_bitCount_0f7a4 45 = .ok (.iushr, 1) := by decide +kernel
theorem dJ6_bitCount_0f7a4_46 : decode cJ6_bitCount_0f7a4 46 = .ok (.iadd, 1) := by decide +kernel
theorem dJ6_bitCount_0f7a4_47 : decode cJ6_bitCount_0f7a4 47 = .ok (.istore_n 0, 1) := by decide +kernel
theorem dJ6_bitCount_0f7a4_48 : decode cJ6_bitCount_0f7a4 48 = .ok (.iload_n 0, 1) := by decide +kernel
theorem dJ6_bitCount_0f7a4_49 : decode cJ6_bitCount_0f7a4 49 = .ok (.bipush 63, 2) := by decide +kernel
theorem dJ6_bitCount_0f7a4_51 : decode cJ6_bitCount_0f7a4 51 = .ok (.iand, 1) := by decide +kernel
theorem dJ6_bitCount_0f7a4_52 : decode cJ6_bitCount_0f7a4 52 = .ok (.ireturn, 1) := by decide +kernel
theorem dJ9_max_7cf53_0 : decode cJ9_max_7cf53 0 = .ok (.iload_n 0, 1) := by decide +kernel
theorem dJ9_max_7cf53_1 : decode cJ9_max_7cf53 1 = .ok (.iload_n 1, 1) := by decide +kernel
theorem dJ9_max_7cf53_2 : decode cJ9_max_7cf53 2 = .ok (.if_icmp .lt 7, 3) := by decide +kernel
theorem dJ9_max_7cf53_5 : decode cJ9_max_7cf53 5 = .ok (.iload_n 0, 1) := by decide +kernel
theorem dJ9_max_7cf53_6 : decode cJ9_max_7cf53 6 = .ok (.goto 4, 3) := by decide +kernel
theorem dJ9_max_7cf53_9 : decode cJ9_max_7cf53 9 = .ok (.iload_n 1, 1) := by decide +kernel
theorem dJ9_max_7cf53_10 : decode cJ9_max_7cf53 10 = .ok (.ireturn, 1) := by decide +kernel
theorem dJ9_min_7cf53_0 : decode cJ9_min_7cf53 0 = .ok (.iload_n 0, 1) := by decide +kernel
theorem dJ9_min_7cf53_1 : decode cJ9_min_7cf53 1 = .ok (.iload_n 1, 1) := by decide +kernel
theorem dJ9_min_7cf53_2 : decode cJ9_min_7cf53 2 = .ok (.if_icmp .gt 7, 3) := by decide +kernel
theorem dJ9_min_7cf53_5 : decode cJ9_min_7cf53 5 = .ok (.iload_n 0, 1) := by decide +kernel
theorem dJ9_min_7cf53_6 : decode cJ9_min_7cf53 6 = .ok (.goto 4, 3) := by decide +kernel
theorem dJ9_min_7cf53_9 : decode cJ9_min_7cf53 9 = .ok (.iload_n 1, 1) := by decide +kernel
theorem dJ9_min_7cf53_10 : decode cJ9_min_7cf53 10 = .ok (.ireturn, 1) := by decide +kernel
set_option maxRecDepth 20000 in
theorem ggJ0_length_8abf5_J0_coder_7d493 : GoodIn wsJ0_length_8abf5 wsJ0_coder_7d493 := goodIn_r _ [6, 7, 8] (by decide +kernel) (by decide +kernel)
set_option maxRecDepth 20000 in
theorem gJ0_length_8abf5_J0_coder_7d493 : GoodIn wsJ0_length_8abf5 (wsV RJ0 335 RJ0 yJ0_coder_7d493 wsJ0_coder_7d493) := goodIn_app (goodIn_of _ (by decide +kernel)) ggJ0_length_8abf5_J0_coder_7d493
theorem dJ0_length_8abf5_0 : decode cJ0_length_8abf5 0 = .ok (.aload_n 0, 1) := by decide +kernel
theorem dJ0_length_8abf5_1 : decode cJ0_length_8abf5 1 = .ok (.getfield 9, 3) := by decide +kernel
theorem dJ0_length_8abf5_4 : decode cJ0_length_8abf5 4 = .ok (.arraylength, 1) := by decide +kernel
theorem dJ0_length_8abf5_5 : decode cJ0_length_8abf5 5 = .ok (.aload_n 0, 1) := by decide +kernel
theorem dJ0_length_8abf5_6 : decode cJ0_length_8abf5 6 = .ok (.invokevirtual 335, 3) := by decide +kernel
theorem dJ0_length_8abf5_9 : decode cJ0_length_8abf5 9 = .ok (.ishr, 1) := by decide +kernel
theorem dJ0_length_8abf5_10 : decode cJ0_length_8abf5 10 = .ok (.ireturn, 1) := by decide +kernel
set_option maxRecDepth 20000 in
theorem ggJ0_charAt_5068e_J0_isLatin1_aae02 : GoodIn wsJ0_charAt_5068e wsJ0_isLatin1_aae02 := goodIn_r _ [6, 7, 8] (by decide +kernel) (by decide +kernel)
set_option maxRecDepth 20000 in
theorem gJ0_charAt_5068e_J0_isLatin1_aae02 : GoodIn wsJ0_charAt_5068e (wsV RJ0 492 RJ0 yJ0_isLatin1_aae02 wsJ0_isLatin1_aae02) := goodIn_app (goodIn_of _ (by decide +kernel)) ggJ0_charAt_5068e_J0_isLatin1_aae02
set_option maxRecDepth 20000 in
theorem ggJ0_charAt_5068e_J1_charAt_3b067 : GoodIn wsJ0_charAt_5068e wsJ1_charAt_3b067 := goodIn_r _ [12, 13, 14, 5, 15, 16, 17, 18, 19, 20] (by decide +kernel) (by decide +kernel)
set_option maxRecDepth 20000 in
theorem gJ0_charAt_5068e_J1_charAt_3b067 : GoodIn wsJ0_charAt_5068e (va_wsS RJ0 495 yJ1_charAt_3b067 wsJ1_charAt_3b067) := goodIn_app (goodIn_of _ (by decide +kernel)) ggJ0_charAt_5068e_J1_charAt_3b067
set_option maxRecDepth 20000 in
theorem ggJ0_charAt_5068e_J2_charAt_3b067 : GoodIn wsJ0_charAt_5068e wsJ2_charAt_3b067 := goodIn_r _ [24, 25, 26, 23, 27, 28, 29, 30, 31, 14, 5, 15, 16, 17, 18, 19, 20, 32, 33, 34, 35, 36, 37] (by decide +kernel) (by decide +kernel)
set_option maxRecDepth 20000 in
theorem gJ0_charAt_5068e_J2_charAt_3b067 : GoodIn wsJ0_charAt_5068e (va_wsS RJ0 498 yJ2_charAt_3b067 wsJ2_charAt_3b067) := goodIn_app (goodIn_of _ (by decide +kernel)) ggJ0_charAt_5068e_J2_charAt_3b067
theorem dJ0_charAt_5068e_0 : decode cJ0_charAt_5068e 0 = .ok (.aload_n 0, 1) := by decide +kernel
theorem dJ0_charAt_5068e_1 : decode cJ0_charAt_5068e 1 = .ok (.invokevirtual 492, 3) := by decide +kernel
theorem dJ0_charAt_5068e_4 : decode cJ0_charAt_5068e 4 = .ok (.ifCond .eq 12, 3) := by decide +kernel
theorem dJ0_charAt_5068e_7 : decode cJ0_charAt_5068e 7 = .ok (.aload_n 0, 1) := by decide +kernel
theorem dJ0_charAt_5068e_8 : decode cJ0_charAt_5068e 8 = .ok (.getfield 9, 3) := by decide +kernel
theorem dJ0_charAt_5068e_11 : decode cJ0_charAt_5068e 11 = .ok (.iload_n 1, 1) := by decide +kernel
theorem dJ0_charAt_5068e_12 : decode cJ0_charAt_5068e 12 = .ok (.invokestatic 495, 3) := by decide +kernel
theorem dJ0_charAt_5068e_15 : decode cJ0_charAt_5068e 15 = .ok (.ireturn, 1) := by decide +kernel
theorem dJ0_charAt_5068e_16 : decode cJ0_charAt_5068e 16 = .ok (.aload_n 0, 1) := by decide +kernel
theorem dJ0_charAt_5068e_17 : decode cJ0_charAt_5068e 17 = .ok (.getfield 9, 3) := by decide +kernel
theorem dJ0_charAt_5068e_20 : decode cJ0_charAt_5068e 20 = .ok (.iload_n 1, 1) := by decide +kernel
theorem dJ0_charAt_5068e_21 : decode cJ0_charAt_5068e 21 = .ok (.invokestatic 498, 3) := by decide +kernel
theorem dJ0_charAt_5068e_24 : decode cJ0_charAt_5068e 24 = .ok (.ireturn, 1) := by decide +kernel
set_option maxRecDepth 20000 in
theorem ggJ0_indexOf_0f7a4_J0_indexOf_7cf53 : GoodIn wsJ0_indexOf_0f7a4 wsJ0_indexOf_7cf53 := goodIn_r _ [5, 6, 7, 8, 9, 4, 10, 11, 12, 13, 14, 15, 16, 17, 18, 19, 20, 21, 22, 23, 24, 25, 26, 27, 28, 29, 30, 31, 32, 33, 34, 35, 36, 37, 38, 39, 40, 41, 42, 43, 44, 45, 46, 47, 48, 49, 50, 51, 52, 53, 54, 55, 56, 57, 58, 59, 60, 61, 62, 63, 64, 65, 66, 67, 68, 69, 70, 71, 72, 73, 74, 75, 76, 77, 78, 79, 80, 81, 82, 83, 84, 85] (by decide +kernel) (by decide +kernel)
set_option maxRecDepth 20000 in
theorem gJ0_indexOf_0f7a4_J0_indexOf_7cf53 : GoodIn wsJ0_indexOf_0f7a4 (wsV RJ0 633 RJ0 yJ0_indexOf_7cf53 wsJ0_indexOf_7cf53) := goodIn_app (goodIn_of _ (by decide +kernel)) ggJ0_indexOf_0f7a4_J0_indexOf_7cf53
theorem dJ0_indexOf_0f7a4_0 : decode cJ0_indexOf_0f7a4 0 = .ok (.aload_n 0, 1) := by decide +kernel
theorem dJ0_indexOf_0f7a4_1 : decode cJ0_indexOf_0f7a4 1 = .ok (.iload_n 1, 1) := by decide +kernel
theorem dJ0_indexOf_0f7a4_2 : decode cJ0_indexOf_0f7a4 2 = .ok (.iconst 0, 1) := by decide +kernel
theorem dJ0_indexOf_0f7a4_3 : decode cJ0_indexOf_0f7a4 3 = .ok (.invokevirtual 633, 3) := by decide +kernel
theorem dJ0_indexOf_0f7a4_6 : decode cJ0_indexOf_0f7a4 6 = .ok (.ireturn, 1) := by decide +kernel
set_option maxRecDepth 20000 in
theorem ggJ0_indexOf_7cf53_J0_isLatin1_aae02 : GoodIn wsJ0_indexOf_7cf53 wsJ0_isLatin1_aae02 := goodIn_r _ [6, 7, 8] (by decide +kernel) (by decide +kernel)
set_option maxRecDepth 20000 in
theorem gJ0_indexOf_7cf53_J0_isLatin1_aae02 : GoodIn wsJ0_indexOf_7cf53 (wsV RJ0 492 RJ0 yJ0_isLatin1_aae02 wsJ0_isLatin1_aae02) := goodIn_app (goodIn_of _ (by decide +kernel)) ggJ0_indexOf_7cf53_J0_isLatin1_aae02
set_option maxRecDepth 20000 in
theorem ggJ0_indexOf_7cf53_J0_length_8abf5 : GoodIn wsJ0_indexOf_7cf53 wsJ0_length_8abf5 := goodIn_r _ [12, 1, 13, 14, 15, 5, 16, 7, 8] (by decide +kernel) (by decide +kernel)
set_option maxRecDepth 20000 in
theorem gJ0_indexOf_7cf53_J0_length_8abf5 : GoodIn wsJ0_indexOf_7cf53 (wsV RJ0 505 RJ0 yJ0_length_8abf5 wsJ0_length_8abf5) := goodIn_app (goodIn_of _ (by decide +kernel)) ggJ0_indexOf_7cf53_J0_length_8abf5
set_option maxRecDepth 20000 in
theorem ggJ0_indexOf_7cf53_J1_indexOf_4cfef : GoodIn wsJ0_indexOf_7cf53 wsJ1_indexOf_4cfef := goodIn_r _ [20, 21, 22, 23, 24, 25, 26, 27, 28, 29, 19, 30, 31, 32, 33] (by decide +kernel) (by decide +kernel)
set_option maxRecDepth 20000 in
theorem gJ0_indexOf_7cf53_J1_indexOf_4cfef : GoodIn wsJ0_indexOf_7cf53 (va_wsS RJ0 637 yJ1_indexOf_4cfef wsJ1_indexOf_4cfef) := goodIn_app (goodIn_of _ (by decide +kernel)) ggJ0_indexOf_7cf53_J1_indexOf_4cfef
set_option maxRecDepth 20000 in
theorem ggJ0_indexOf_7cf53_J2_indexOf_4cfef : GoodIn wsJ0_indexOf_7cf53 wsJ2_indexOf_4cfef := goodIn_r _ [37, 38, 22, 23, 24, 39, 26, 27, 40, 41, 42, 36, 43, 44, 45, 46, 47, 48, 49, 50, 51, 5, 52, 53, 54, 55, 56, 57, 58, 59, 60, 61, 62, 63, 64, 65, 66, 67, 68, 69, 70, 71, 72, 73, 74, 75, 76, 77, 78, 79, 80, 81] (by decide +kernel) (by decide +kernel)
set_option maxRecDepth 20000 in
theorem gJ0_indexOf_7cf53_J2_indexOf_4cfef : GoodIn wsJ0_indexOf_7cf53 (va_wsS RJ0 640 yJ2_indexOf_4cfef wsJ2_indexOf_4cfef) := goodIn_app (goodIn_of _ (by decide +kernel)) ggJ0_indexOf_7cf53_J2_indexOf_4cfef
theorem dJ0_indexOf_7cf53_0 : decode cJ0_indexOf_7cf53 0 = .ok (.aload_n 0, 1) := by decide +kernel
theorem dJ0_indexOf_7cf53_1 : decode cJ0_indexOf_7cf53 1 = .ok (.invokevirtual 492, 3) := by decide +kernel
theorem dJ0_indexOf_7cf53_4 : decode cJ0_indexOf_7cf53 4 = .ok (.ifCond .eq 19, 3) := by decide +kernel
theorem dJ0_indexOf_7cf53_7 : decode cJ0_indexOf_7cf53 7 = .ok (.aload_n 0, 1) := by decide +kernel
theorem dJ0_indexOf_7cf53_8 : decode cJ0_indexOf_7cf53 8 = .ok (.getfield 9, 3) := by decide +kernel
theorem dJ0_indexOf_7cf53_11 : decode cJ0_indexOf_7cf53 11 = .ok (.iload_n 1, 1) := by decide +kernel
theorem dJ0_indexOf_7cf53_12 : decode cJ0_indexOf_7cf53 12 = .ok (.iload_n 2, 1) := by decide +kernel
theorem dJ0_indexOf_7cf53_13 : decode cJ0_indexOf_7cf53 13 = .ok (.aload_n 0, 1) := by decide +kernel
theorem dJ0_indexOf_7cf53_14 : decode cJ0_indexOf_7cf53 14 = .ok (.invokevirtual 505, 3) := by decide +kernel
theorem dJ0_indexOf_7cf53_17 : decode cJ0_indexOf_7cf53 17 = .ok (.invokestatic 637, 3) := by decide +kernel
theorem dJ0_indexOf_7cf53_20 : decode cJ0_indexOf_7cf53 20 = .ok (.goto 16, 3) := by decide +kernel
theorem dJ0_indexOf_7cf53_23 : decode cJ0_indexOf_7cf53 23 = .ok (.aload_n 0, 1) := by decide +kernel
theorem dJ0_indexOf_7cf53_24 : decode cJ0_indexOf_7cf53 24 = .ok (.getfield 9, 3) := by decide +kernel
theorem dJ0_indexOf_7cf53_27 : decode cJ0_indexOf_7cf53 27 = .ok (.iload_n 1, 1) := by decide +kernel
theorem dJ0_indexOf_7cf53_28 : decode cJ0_indexOf_7cf53 28 = .ok (.iload_n 2, 1) := by decide +kernel
theorem dJ0_indexOf_7cf53_29 : decode cJ0_indexOf_7cf53 29 = .ok (.aload_n 0, 1) := by decide +kernel
theorem dJ0_indexOf_7cf53_30 : decode cJ0_indexOf_7cf53 30 = .ok (.invokevirtual 505, 3) := by decide +kernel
theorem dJ0_indexOf_7cf53_33 : decode cJ0_indexOf_7cf53 33 = .ok (.invokestatic 640, 3) := by decide +kernel
theorem dJ0_indexOf_7cf53_36 : decode cJ0_indexOf_7cf53 36 = .ok (.ireturn, 1) := by decide +kernel
theorem dJ0_coder_7d493_0 : decode cJ0_coder_7d493 0 = .ok (.getstatic 38, 3) := by decide +kernel
theorem dJ0_coder_7d493_3 : decode cJ0_coder_7d493 3 = .ok (.ifCond .eq 10, 3) := by decide +kernel
theorem dJ0_coder_7d493_6 : decode cJ0_coder_7d493 6 = .ok (.aload_n 0, 1) := by decide +kernel
theorem dJ0_coder_7d493_7 : decode cJ0_coder_7d493 7 = .ok (.getfield 15, 3) := by decide +kernel
theorem dJ0_coder_7d493_10 : decode cJ0_coder_7d493 10 = .ok (.goto 4, 3) := by decide +kernel
theorem dJ0_coder_7d493_13 : decode cJ0_coder_7d493 13 = .ok (.iconst 1, 1) := by decide +kernel
theorem dJ0_coder_7d493_14 : decode cJ0_coder_7d493 14 = .ok (.ireturn, 1) := by decide +kernel
theorem dJ0_isLatin1_aae02_0 : decode cJ0_isLatin1_aae02 0 = .ok (.getstatic 38, 3) := by decide +kernel
theorem dJ0_isLatin1_aae02_3 : decode cJ0_isLatin1_aae02 3 = .ok (.ifCond .eq 14, 3) := by decide +kernel
theorem dJ0_isLatin1_aae02_6 : decode cJ0_isLatin1_aae02 6 = .ok (.aload_n 0, 1) := by decide +kernel
theorem dJ0_isLatin1_aae02_7 : decode cJ0_isLatin1_aae02 7 = .ok (.getfield 15, 3) := by decide +kernel
theorem dJ0_isLatin1_aae02_10 : decode cJ0_isLatin1_aae02 10 = .ok (.ifCond .ne 7, 3) := by decide +kernel
theorem dJ0_isLatin1_aae02_13 : decode cJ0_isLatin1_aae02 13 = .ok (.iconst 1, 1) := by decide +kernel
theorem dJ0_isLatin1_aae02_14 : decode cJ0_isLatin1_aae02 14 = .ok (.goto 4, 3) := by decide +kernel
theorem dJ0_isLatin1_aae02_17 : decode cJ0_isLatin1_aae02 17 = .ok (.iconst 0, 1) := by decide +kernel
theorem dJ0_isLatin1_aae02_18 : decode cJ0_isLatin1_aae02 18 = .ok (.ireturn, 1) := by decide +kernel
set_option maxRecDepth 20000 in
theorem ggJ0_checkIndex_df160_J3_checkIndex_8e157 : GoodIn wsJ0_checkIndex_df160 wsJ3_checkIndex_8e157 := goodIn_r _ [5] (by decide +kernel) (by decide +kernel)
set_option maxRecDepth 20000 in
theorem gJ0_checkIndex_df160_J3_checkIndex_8e157 : GoodIn wsJ0_checkIndex_df160 (va_wsS RJ0 1059 yJ3_checkIndex_8e157 wsJ3_checkIndex_8e157) := goodIn_app (goodIn_of _ (by decide +kernel)) ggJ0_checkIndex_df160_J3_checkIndex_8e157
theorem dJ0_checkIndex_df160_0 : decode cJ0_checkIndex_df160 0 = .ok (.iload_n 0, 1) := by decide +kernel
theorem dJ0_checkIndex_df160_1 : decode cJ0_checkIndex_df160 1 = .ok (.iload_n 1, 1) := by decide +kernel
theorem dJ0_checkIndex_df160_2 : decode cJ0_checkIndex_df160 2 = .ok (.getstatic 1053, 3) := by decide +kernel
theorem dJ0_checkIndex_df160_5 : decode cJ0_checkIndex_df160 5 = .ok (.invokestatic 1059, 3) := by decide +kernel
theorem dJ0_checkIndex_df160_8 : decode cJ0_checkIndex_df160 8 = .ok (.pop, 1) := by decide +kernel
theorem dJ0_checkIndex_df160_9 : decode cJ0_checkIndex_df160 9 = .ok (.return_, 1) := by decide +kernel
set_option maxRecDepth 20000 in
theorem ggJ0_checkBoundsBeginEnd_23922_J3_checkFromToIndex_8c36e : GoodIn wsJ0_checkBoundsBeginEnd_23922 wsJ3_checkFromToIndex_8c36e := goodIn_r _ [5] (by decide +kernel) (by decide +kernel)
set_option maxRecDepth 20000 in
theorem gJ0_checkBoundsBeginEnd_23922_J3_checkFromToIndex_8c36e : GoodIn wsJ0_checkBoundsBeginEnd_23922 (va_wsS RJ0 1062 yJ3_checkFromToIndex_8c36e wsJ3_checkFromToIndex_8c36e) := goodIn_app (goodIn_of _ (by decide +kernel)) ggJ0_checkBoundsBeginEnd_23922_J3_checkFromToIndex_8c36e
theorem dJ0_checkBoundsBeginEnd_23922_0 : decode cJ0_checkBoundsBeginEnd_23922 0 = .ok (.iload_n 0, 1) := by decide +kernel
theorem dJ0_checkBoundsBeginEnd_23922_1 : decode cJ0_checkBoundsBeginEnd_23922 1 = .ok (.iload_n 1, 1) := by decide +kernel
theorem dJ0_checkBoundsBeginEnd_23922_2 : decode cJ0_checkBoundsBeginEnd_23922 2 = .ok (.iload_n 2, 1) := by decide +kernel
theorem dJ0_checkBoundsBeginEnd_23922_3 : decode cJ0_checkBoundsBeginEnd_23922 3 = .ok (.getstatic 1053, 3) := by decide +kernel
theorem dJ0_checkBoundsBeginEnd_23922_6 : decode cJ0_checkBoundsBeginEnd_23922 6 = .ok (.invokestatic 1062, 3) := by decide +kernel
theorem dJ0_checkBoundsBeginEnd_23922_9 : decode cJ0_checkBoundsBeginEnd_23922 9 = .ok (.pop, 1) := by decide +kernel
theorem dJ0_checkBoundsBeginEnd_23922_10 : decode cJ0_checkBoundsBeginEnd_23922 10 = .ok (.return_, 1) := by decide +kernel
set_option maxRecDepth 20000 in
theorem ggJ1_charAt_3b067_J0_checkIndex_df160 : GoodIn wsJ1_charAt_3b067 wsJ0_checkIndex_df160 := goodIn_r _ [4, 5, 6, 7, 8, 9] (by decide +kernel) (by decide +kernel)
set_option maxRecDepth 20000 in
theorem gJ1_charAt_3b067_J0_checkIndex_df160 : GoodIn wsJ1_charAt_3b067 (va_wsS RJ1 9 yJ0_checkIndex_df160 wsJ0_checkIndex_df160) := goodIn_app (goodIn_of _ (by decide +kernel)) ggJ1_charAt_3b067_J0_checkIndex_df160
theorem dJ1_charAt_3b067_0 : decode cJ1_charAt_3b067 0 = .ok (.iload_n 1, 1) := by decide +kernel
theorem dJ1_charAt_3b067_1 : decode cJ1_charAt_3b067 1 = .ok (.aload_n 0, 1) := by decide +kernel
theorem dJ1_charAt_3b067_2 : decode cJ1_charAt_3b067 2 = .ok (.arraylength, 1) := by decide +kernel
theorem dJ1_charAt_3b067_3 : decode cJ1_charAt_3b067 3 = .ok (.invokestatic 9, 3) := by decide +kernel
theorem dJ1_charAt_3b067_6 : decode cJ1_charAt_3b067 6 = .ok (.aload_n 0, 1) := by decide +kernel
theorem dJ1_charAt_3b067_7 : decode cJ1_charAt_3b067 7 = .ok (.iload_n 1, 1) := by decide +kernel
theorem dJ1_charAt_3b067_8 : decode cJ1_charAt_3b067 8 = .ok (.baload, 1) := by decide +kernel
theorem dJ1_charAt_3b067_9 : decode cJ1_charAt_3b067 9 = .ok (.sipush 255, 3) := by decide +kernel
theorem dJ1_charAt_3b067_12 : decode cJ1_charAt_3b067 12 = .ok (.iand, 1) := by decide +kernel
theorem dJ1_charAt_3b067_13 : decode cJ1_charAt_3b067 13 = .ok (.i2c, 1) := by decide +kernel
theorem dJ1_charAt_3b067_14 : decode cJ1_charAt_3b067 14 = .ok (.ireturn, 1) := by decide +kernel
theorem dJ1_canEncode_9a6ad_0 : decode cJ1_canEncode_9a6ad 0 = .ok (.iload_n 0, 1) := by decide +kernel
theorem dJ1_canEncode_9a6ad_1 : decode cJ1_canEncode_9a6ad 1 = .ok (.ifCond .lt 14, 3) := by decide +kernel
theorem dJ1_canEncode_9a6ad_4 : decode cJ1_canEncode_9a6ad 4 = .ok (.iload_n 0, 1) := by decide +kernel
theorem dJ1_canEncode_9a6ad_5 : decode cJ1_canEncode_9a6ad 5 = .ok (.sipush 255, 3) := by decide +kernel
theorem dJ1_canEncode_9a6ad_8 : decode cJ1_canEncode_9a6ad 8 = .ok (.if_icmp .gt 7, 3) := by decide +kernel
theorem dJ1_canEncode_9a6ad_11 : decode cJ1_canEncode_9a6ad 11 = .ok (.iconst 1, 1) := by decide +kernel
theorem dJ1_canEncode_9a6ad_12 : decode cJ1_canEncode_9a6ad 12 = .ok (.goto 4, 3) := by decide +kernel
theorem dJ1_canEncode_9a6ad_15 : decode cJ1_canEncode_9a6ad 15 = .ok (.iconst 0, 1) := by decide +kernel
theorem dJ1_canEncode_9a6ad_16 : decode cJ1_canEncode_9a6ad 16 = .ok (.ireturn, 1) := by decide +kernel
set_option maxRecDepth 20000 in
theorem ggJ1_indexOf_4cfef_J1_canEncode_9a6ad : GoodIn wsJ1_indexOf_4cfef wsJ1_canEncode_9a6ad := goodIn_r _ [11] (by decide +kernel) (by decide +kernel)
set_option maxRecDepth 20000 in
theorem gJ1_indexOf_4cfef_J1_canEncode_9a6ad : GoodIn wsJ1_indexOf_4cfef (va_wsS RJ1 88 yJ1_canEncode_9a6ad wsJ1_canEncode_9a6ad) := goodIn_app (goodIn_of _ (by decide +kernel)) ggJ1_indexOf_4cfef_J1_canEncode_9a6ad
set_option maxRecDepth 20000 in
theorem ggJ1_indexOf_4cfef_J1_indexOfChar_4cfef : GoodIn wsJ1_indexOf_4cfef wsJ1_indexOfChar_4cfef := goodIn_r _ [14] (by decide +kernel) (by decide +kernel)
set_option maxRecDepth 20000 in
theorem gJ1_indexOf_4cfef_J1_indexOfChar_4cfef : GoodIn wsJ1_indexOf_4cfef (va_wsS RJ1 95 yJ1_indexOfChar_4cfef wsJ1_indexOfChar_4cfef) := goodIn_app (goodIn_of _ (by decide +kernel)) ggJ1_indexOf_4cfef_J1_indexOfChar_4cfef
theorem dJ1_indexOf_4cfef_0 : decode cJ1_indexOf_4cfef 0 = .ok (.iload_n 1, 1) := by decide +kernel
theorem dJ1_indexOf_4cfef_1 : decode cJ1_indexOf_4cfef 1 = .ok (.invokestatic 88, 3) := by decide +kernel
theorem dJ1_indexOf_4cfef_4 : decode cJ1_indexOf_4cfef 4 = .ok (.ifCond .ne 5, 3) := by decide +kernel
theorem dJ1_indexOf_4cfef_7 : decode cJ1_indexOf_4cfef 7 = .ok (.iconst (-1), 1) := by decide +kernel
theorem dJ1_indexOf_4cfef_8 : decode cJ1_indexOf_4cfef 8 = .ok (.ireturn, 1) := by decide +kernel
theorem dJ1_indexOf_4cfef_9 : decode cJ1_indexOf_4cfef 9 = .ok (.iload_n 2, 1) := by decide +kernel
theorem dJ1_indexOf_4cfef_10 : decode cJ1_indexOf_4cfef 10 = .ok (.iconst 0, 1) := by decide +kernel
theorem dJ1_indexOf_4cfef_11 : decode cJ1_indexOf_4cfef 11 = .ok (.invokestatic 92, 3) := by decide +kernel
theorem dJ1_indexOf_4cfef_14 : decode cJ1_indexOf_4cfef 14 = .ok (.istore_n 2, 1) := by decide +kernel
theorem dJ1_indexOf_4cfef_15 : decode cJ1_indexOf_4cfef 15 = .ok (.iload_n 3, 1) := by decide +kernel
theorem dJ1_indexOf_4cfef_16 : decode cJ1_indexOf_4cfef 16 = .ok (.aload_n 0, 1) := by decide +kernel
theorem dJ1_indexOf_4cfef_17 : decode cJ1_indexOf_4cfef 17 = .ok (.arraylength, 1) := by decide +kernel
theorem dJ1_indexOf_4cfef_18 : decode cJ1_indexOf_4cfef 18 = .ok (.invokestatic 38, 3) := by decide +kernel
theorem dJ1_indexOf_4cfef_21 : decode cJ1_indexOf_4cfef 21 = .ok (.istore_n 3, 1) := by decide +kernel
theorem dJ1_indexOf_4cfef_22 : decode cJ1_indexOf_4cfef 22 = .ok (.iload_n 2, 1) := by decide +kernel
theorem dJ1_indexOf_4cfef_23 : decode cJ1_indexOf_4cfef 23 = .ok (.iload_n 3, 1) := by decide +kernel
theorem dJ1_indexOf_4cfef_24 : decode cJ1_indexOf_4cfef 24 = .ok (.if_icmp .lt 5, 3) := by decide +kernel
theorem dJ1_indexOf_4cfef_27 : decode cJ1_indexOf_4cfef 27 = .ok (.iconst (-1), 1) := by decide +kernel
theorem dJ1_indexOf_4cfef_28 : decode cJ1_indexOf_4cfef 28 = .ok (.ireturn, 1) := by decide +kernel
theorem dJ1_indexOf_4cfef_29 : decode cJ1_indexOf_4cfef 29 = .ok (.aload_n 0, 1) := by decide +kernel
theorem dJ1_indexOf_4cfef_30 : decode cJ1_indexOf_4cfef 30 = .ok (.iload_n 1, 1) := by decide +kernel
theorem dJ1_indexOf_4cfef_31 : decode cJ1_indexOf_4cfef 31 = .ok (.iload_n 2, 1) := by decide +kernel
theorem dJ1_indexOf_4cfef_32 : decode cJ1_indexOf_4cfef 32 = .ok (.iload_n 3, 1) := by decide +kernel
theorem dJ1_indexOf_4cfef_33 : decode cJ1_indexOf_4cfef 33 = .ok (.invokestatic 95, 3) := by decide +kernel
theorem dJ1_indexOf_4cfef_36 : decode cJ1_indexOf_4cfef 36 = .ok (.ireturn, 1) := by decide +kernel
theorem dJ1_indexOfChar_4cfef_0 : decode cJ1_indexOfChar_4cfef 0 = .ok (.iload_n 1, 1) := by decide +kernel
theorem dJ1_indexOfChar_4cfef_1 : decode cJ1_indexOfChar_4cfef 1 = .ok (.i2b, 1) := by decide +kernel
theorem dJ1_indexOfChar_4cfef_2 : decode cJ1_indexOfChar_4cfef 2 = .ok (.istore 4, 2) := by decide +kernel
theorem dJ1_indexOfChar_4cfef_4 : decode cJ1_indexOfChar_4cfef 4 = .ok (.iload_n 2, 1) := by decide +kernel
theorem dJ1_indexOfChar_4cfef_5 : decode cJ1_indexOfChar_4cfef 5 = .ok (.istore 5, 2) := by decide +kernel
theorem dJ1_indexOfChar_4cfef_7 : decode cJ1_indexOfChar_4cfef 7 = .ok (.iload 5, 2) := by decide +kernel
theorem dJ1_indexOfChar_4cfef_9 : decode cJ1_indexOfChar_4cfef 9 = .ok (.iload_n 3, 1) := by decide +kernel
theorem dJ1_indexOfChar_4cfef_10 : decode cJ1_indexOfChar_4cfef 10 = .ok (.if_icmp .ge 21, 3) := by decide +kernel
theorem dJ1_indexOfChar_4cfef_13 : decode cJ1_indexOfChar_4cfef 13 = .ok (.aload_n 0, 1) := by decide +kernel
theorem dJ1_indexOfChar_4cfef_14 : decode cJ1_indexOfChar_4cfef 14 = .ok (.iload 5, 2) := by decide +kernel
theorem dJ1_indexOfChar_4cfef_16 : decode cJ1_indexOfChar_4cfef 16 = .ok (.baload, 1) := by decide +kernel
theorem dJ1_indexOfChar_4cfef_17 : decode cJ1_indexOfChar_4cfef 17 = .ok (.iload 4, 2) := by decide +kernel
theorem dJ1_indexOfChar_4cfef_19 : decode cJ1_indexOfChar_4cfef 19 = .ok (.if_icmp .ne 6, 3) := by decide +kernel
theorem dJ1_indexOfChar_4cfef_22 : decode cJ1_indexOfChar_4cfef 22 = .ok (.iload 5, 2) := by decide +kernel
theorem dJ1_indexOfChar_4cfef_24 : decode cJ1_indexOfChar_4cfef 24 = .ok (.ireturn, 1) := by decide +kernel
theorem dJ1_indexOfChar_4cfef_25 : decode cJ1_indexOfChar_4cfef 25 = .ok (.iinc 5 1, 3) := by decide +kernel
theorem dJ1_indexOfChar_4cfef_28 : decode cJ1_indexOfChar_4cfef 28 = .ok (.goto (-21), 3) := by decide +kernel
theorem dJ1_indexOfChar_4cfef_31 : decode cJ1_indexOfChar_4cfef 31 = .ok (.iconst (-1), 1) := by decide +kernel
theorem dJ1_indexOfChar_4cfef_32 : decode cJ1_indexOfChar_4cfef 32 = .ok (.ireturn, 1) := by decide +kernel
set_option maxRecDepth 20000 in
theorem ggJ2_getChar_3b067_J2_length_9d52b : GoodIn wsJ2_getChar_3b067 wsJ2_length_9d52b := goodIn_r _ [7] (by decide +kernel) (by decide +kernel)
set_option maxRecDepth 20000 in
theorem gJ2_getChar_3b067_J2_length_9d52b : GoodIn wsJ2_getChar_3b067 (va_wsS RJ2 48 yJ2_length_9d52b wsJ2_length_9d52b) := goodIn_app (goodIn_of _ (by decide +kernel)) ggJ2_getChar_3b067_J2_length_9d52b
theorem dJ2_getChar_3b067_0 : decode cJ2_getChar_3b067 0 = .ok (.getstatic 44, 3) := by decide +kernel
theorem dJ2_getChar_3b067_3 : decode cJ2_getChar_3b067 3 = .ok (.ifCond .ne 25, 3) := by decide +kernel
theorem dJ2_getChar_3b067_6 : decode cJ2_getChar_3b067 6 = .ok (.iload_n 1, 1) := by decide +kernel
theorem dJ2_getChar_3b067_7 : decode cJ2_getChar_3b067 7 = .ok (.ifCond .lt 11, 3) := by decide +kernel
theorem dJ2_getChar_3b067_10 : decode cJ2_getChar_3b067 10 = .ok (.iload_n 1, 1) := by decide +kernel
theorem dJ2_getChar_3b067_11 : decode cJ2_getChar_3b067 11 = .ok (.aload_n 0, 1) := by decide +kernel
theorem dJ2_getChar_3b067_12 : decode cJ2_getChar_3b067 12 = .ok (.invokestatic 48, 3) := by decide +kernel
theorem dJ2_getChar_3b067_15 : decode cJ2_getChar_3b067 15 = .ok (.if_icmp .lt 13, 3) := by decide +kernel
theorem dJ2_getChar_3b067_18 : decode cJ2_getChar_3b067 18 = .ok (.new 52, 3) := by decide +kernel
theorem dJ2_getChar_3b067_21 : decode cJ2_getChar_3b067 21 = .ok (.dup, 1) := by decide +kernel
theorem dJ2_getChar_3b067_22 : decode cJ2_getChar_3b067 22 = .ok (.ldc 54, 2) := by decide +kernel
theorem dJ2_getChar_3b067_24 : decode cJ2_getChar_3b067 24 = .ok (.invokespecial 56, 3) := by decide +kernel
theorem dJ2_getChar_3b067_27 : decode cJ2_getChar_3b067 27 = .ok (.athrow, 1) := by decide +kernel
theorem dJ2_getChar_3b067_28 : decode cJ2_getChar_3b067 28 = .ok (.iload_n 1, 1) := by decide +kernel
theorem dJ2_getChar_3b067_29 : decode cJ2_getChar_3b067 29 = .ok (.iconst 1, 1) := by decide +kernel
theorem dJ2_getChar_3b067_30 : decode cJ2_getChar_3b067 30 = .ok (.ishl, 1) := by decide +kernel
theorem dJ2_getChar_3b067_31 : decode cJ2_getChar_3b067 31 = .ok (.istore_n 1, 1) := by decide +kernel
theorem dJ2_getChar_3b067_32 : decode cJ2_getChar_3b067 32 = .ok (.aload_n 0, 1) := by decide +kernel
theorem dJ2_getChar_3b067_33 : decode cJ2_getChar_3b067 33 = .ok (.iload_n 1, 1) := by decide +kernel
theorem dJ2_getChar_3b067_34 : decode cJ2_getChar_3b067 34 = .ok (.iinc 1 1, 3) := by decide +kernel
theorem dJ2_getChar_3b067_37 : decode cJ2_getChar_3b067 37 = .ok (.baload, 1) := by decide +kernel
theorem dJ2_getChar_3b067_38 : decode cJ2_getChar_3b067 38 = .ok (.sipush 255, 3) := by decide +kernel
theorem dJ2_getChar_3b067_41 : decode cJ2_getChar_3b067 41 = .ok (.iand, 1) := by decide +kernel
theorem dJ2_getChar_3b067_42 : decode cJ2_getChar_3b067 42 = .ok (.getstatic 59, 3) := by decide +kernel
theorem dJ2_getChar_3b067_45 : decode cJ2_getChar_3b067 45 = .ok (.ishl, 1) := by decide +kernel
theorem dJ2_getChar_3b067_46 : decode cJ2_getChar_3b067 46 = .ok (.aload_n 0, 1) := by decide +kernel
theorem dJ2_getChar_3b067_47 : decode cJ2_getChar_3b067 47 = .ok (.iload_n 1, 1) := by decide +kernel
theorem dJ2_getChar_3b067_48 : decode cJ2_getChar_3b067 48 = .ok (.baload, 1) := by decide +kernel
theorem dJ2_getChar_3b067_49 : decode cJ2_getChar_3b067 49 = .ok (.sipush 255, 3) := by decide +kernel
theorem dJ2_getChar_3b067_52 : decode cJ2_getChar_3b067 52 = .ok (.iand, 1) := by decide +kernel
theorem dJ2_getChar_3b067_53 : decode cJ2_getChar_3b067 53 = .ok (.getstatic 63, 3) := by decide +kernel
theorem dJ2_getChar_3b067_56 : decode cJ2_getChar_3b067 56 = .ok (.ishl, 1) := by decide +kernel
theorem dJ2_getChar_3b067_57 : decode cJ2_getChar_3b067 57 = .ok (.ior, 1) := by decide +kernel
theorem dJ2_getChar_3b067_58 : decode cJ2_getChar_3b067 58 = .ok (.i2c, 1) := by decide +kernel
theorem dJ2_getChar_3b067_59 : decode cJ2_getChar_3b067 59 = .ok (.ireturn, 1) := by decide +kernel
theorem dJ2_length_9d52b_0 : decode cJ2_length_9d52b 0 = .ok (.aload_n 0, 1) := by decide +kernel
theorem dJ2_length_9d52b_1 : decode cJ2_length_9d52b 1 = .ok (.arraylength, 1) := by decide +kernel
theorem dJ2_length_9d52b_2 : decode cJ2_length_9d52b 2 = .ok (.iconst 1, 1) := by decide +kernel
theorem dJ2_length_9d52b_3 : decode cJ2_length_9d52b 3 = .ok (.ishr, 1) := by decide +kernel
theorem dJ2_length_9d52b_4 : decode cJ2_length_9d52b 4 = .ok (.ireturn, 1) := by decide +kernel
set_option maxRecDepth 20000 in
theorem ggJ2_indexOf_4cfef_J2_indexOfChar_4cfef : GoodIn wsJ2_indexOf_4cfef wsJ2_indexOfChar_4cfef := goodIn_r _ [12, 13, 14, 11, 15, 16, 17, 18, 19, 20, 21, 22, 23, 24, 25, 26, 27, 28, 29, 30, 31, 32, 33, 34, 35, 36] (by decide +kernel) (by decide +kernel)
set_option maxRecDepth 20000 in
theorem gJ2_indexOf_4cfef_J2_indexOfChar_4cfef : GoodIn wsJ2_indexOf_4cfef (va_wsS RJ2 228 yJ2_indexOfChar_4cfef wsJ2_indexOfChar_4cfef) := goodIn_app (goodIn_of _ (by decide +kernel)) ggJ2_indexOf_4cfef_J2_indexOfChar_4cfef
set_option maxRecDepth 20000 in
theorem ggJ2_indexOf_4cfef_J2_indexOfSupplementary_4cfef : GoodIn wsJ2_indexOf_4cfef wsJ2_indexOfSupplementary_4cfef := goodIn_r _ [39, 40, 41, 42, 43, 44, 45, 46, 47, 48, 49, 50, 51, 13, 14, 11, 15, 16, 17, 18, 19, 20, 21, 22, 23, 24, 25, 26, 27, 31, 32, 33, 34, 35, 36] (by decide +kernel) (by decide +kernel)
set_option maxRecDepth 20000 in
theorem gJ2_indexOf_4cfef_J2_indexOfSupplementary_4cfef : GoodIn wsJ2_indexOf_4cfef (va_wsS RJ2 232 yJ2_indexOfSupplementary_4cfef wsJ2_indexOfSupplementary_4cfef) := goodIn_app (goodIn_of _ (by decide +kernel)) ggJ2_indexOf_4cfef_J2_indexOfSupplementary_4cfef
theorem dJ2_indexOf_4cfef_0 : decode cJ2_indexOf_4cfef 0 = .ok (.iload_n 2, 1) := by decide +kernel
theorem dJ2_indexOf_4cfef_1 : decode cJ2_indexOf_4cfef 1 = .ok (.iconst 0, 1) := by decide +kernel
theorem dJ2_indexOf_4cfef_2 : decode cJ2_indexOf_4cfef 2 = .ok (.invokestatic 224, 3) := by decide +kernel
theorem dJ2_indexOf_4cfef_5 : decode cJ2_indexOf_4cfef 5 = .ok (.istore_n 2, 1) := by decide +kernel
theorem dJ2_indexOf_4cfef_6 : decode cJ2_indexOf_4cfef 6 = .ok (.iload_n 3, 1) := by decide +kernel
theorem dJ2_indexOf_4cfef_7 : decode cJ2_indexOf_4cfef 7 = .ok (.aload_n 0, 1) := by decide +kernel
theorem dJ2_indexOf_4cfef_8 : decode cJ2_indexOf_4cfef 8 = .ok (.arraylength, 1) := by decide +kernel
theorem dJ2_indexOf_4cfef_9 : decode cJ2_indexOf_4cfef 9 = .ok (.iconst 1, 1) := by decide +kernel
theorem dJ2_indexOf_4cfef_10 : decode cJ2_indexOf_4cfef 10 = .ok (.ishr, 1) := by decide +kernel
theorem dJ2_indexOf_4cfef_11 : decode cJ2_indexOf_4cfef 11 = .ok (.invokestatic 183, 3) := by decide +kernel
theorem dJ2_indexOf_4cfef_14 : decode cJ2_indexOf_4cfef 14 = .ok (.istore_n 3, 1) := by decide +kernel
theorem dJ2_indexOf_4cfef_15 : decode cJ2_indexOf_4cfef 15 = .ok (.iload_n 2, 1) := by decide +kernel
theorem dJ2_indexOf_4cfef_16 : decode cJ2_indexOf_4cfef 16 = .ok (.iload_n 3, 1) := by decide +kernel
theorem dJ2_indexOf_4cfef_17 : decode cJ2_indexOf_4cfef 17 = .ok (.if_icmp .lt 5, 3) := by decide +kernel
theorem dJ2_indexOf_4cfef_20 : decode cJ2_indexOf_4cfef 20 = .ok (.iconst (-1), 1) := by decide +kernel
theorem dJ2_indexOf_4cfef_21 : decode cJ2_indexOf_4cfef 21 = .ok (.ireturn, 1) := by decide +kernel
theorem dJ2_indexOf_4cfef_22 : decode cJ2_indexOf_4cfef 22 = .ok (.iload_n 1, 1) := by decide +kernel
theorem dJ2_indexOf_4cfef_23 : decode cJ2_indexOf_4cfef 23 = .ok (.ldc 227, 2) := by decide +kernel
theorem dJ2_indexOf_4cfef_25 : decode cJ2_indexOf_4cfef 25 = .ok (.if_icmp .ge 11, 3) := by decide +kernel
theorem dJ2_indexOf_4cfef_28 : decode cJ2_indexOf_4cfef 28 = .ok (.aload_n 0, 1) := by decide +kernel
theorem dJ2_indexOf_4cfef_29 : decode cJ2_indexOf_4cfef 29 = .ok (.iload_n 1, 1) := by decide +kernel
theorem dJ2_indexOf_4cfef_30 : decode cJ2_indexOf_4cfef 30 = .ok (.iload_n 2, 1) := by decide +kernel
theorem dJ2_indexOf_4cfef_31 : decode cJ2_indexOf_4cfef 31 = .ok (.iload_n 3, 1) := by decide +kernel
theorem dJ2_indexOf_4cfef_32 : decode cJ2_indexOf_4cfef 32 = .ok (.invokestatic 228, 3) := by decide +kernel
theorem dJ2_indexOf_4cfef_35 : decode cJ2_indexOf_4cfef 35 = .ok (.ireturn, 1) := by decide +kernel
theorem dJ2_indexOf_4cfef_36 : decode cJ2_indexOf_4cfef 36 = .ok (.aload_n 0, 1) := by decide +kernel
theorem dJ2_indexOf_4cfef_37 : decode cJ2_indexOf_4cfef 37 = .ok (.iload_n 1, 1) := by decide +kernel
theorem dJ2_indexOf_4cfef_38 : decode cJ2_indexOf_4cfef 38 = .ok (.iload_n 2, 1) := by decide +kernel
theorem dJ2_indexOf_4cfef_39 : decode cJ2_indexOf_4cfef 39 = .ok (.iload_n 3, 1) := by decide +kernel
theorem dJ2_indexOf_4cfef_40 : decode cJ2_indexOf_4cfef 40 = .ok (.invokestatic 232, 3) := by decide +kernel
theorem dJ2_indexOf_4cfef_43 : decode cJ2_indexOf_4cfef 43 = .ok (.ireturn, 1) := by decide +kernel
set_option maxRecDepth 20000 in
theorem ggJ2_indexOfChar_4cfef_J2_checkBoundsBeginEnd_d044e : GoodIn wsJ2_indexOfChar_4cfef wsJ2_checkBoundsBeginEnd_d044e := goodIn_r _ [4, 5, 6, 3, 7, 8, 9, 10, 11, 12, 13, 14, 15, 16] (by decide +kernel) (by decide +kernel)
set_option maxRecDepth 20000 in
theorem gJ2_indexOfChar_4cfef_J2_checkBoundsBeginEnd_d044e : GoodIn wsJ2_indexOfChar_4cfef (va_wsS RJ2 96 yJ2_checkBoundsBeginEnd_d044e wsJ2_checkBoundsBeginEnd_d044e) := goodIn_app (goodIn_of _ (by decide +kernel)) ggJ2_indexOfChar_4cfef_J2_checkBoundsBeginEnd_d044e
set_option maxRecDepth 20000 in
theorem ggJ2_indexOfChar_4cfef_J2_indexOfCharUnsafe_4cfef : GoodIn wsJ2_indexOfChar_4cfef wsJ2_indexOfCharUnsafe_4cfef := goodIn_r _ [19, 20, 21, 3, 22, 23, 24, 25, 5, 6, 7] (by decide +kernel) (by decide +kernel)
set_option maxRecDepth 20000 in
theorem gJ2_indexOfChar_4cfef_J2_indexOfCharUnsafe_4cfef : GoodIn wsJ2_indexOfChar_4cfef (va_wsS RJ2 244 yJ2_indexOfCharUnsafe_4cfef wsJ2_indexOfCharUnsafe_4cfef) := goodIn_app (goodIn_of _ (by decide +kernel)) ggJ2_indexOfChar_4cfef_J2_indexOfCharUnsafe_4cfef
theorem dJ2_indexOfChar_4cfef_0 : decode cJ2_indexOfChar_4cfef 0 = .ok (.iload_n 2, 1) := by decide +kernel
theorem dJ2_indexOfChar_4cfef_1 : decode cJ2_indexOfChar_4cfef 1 = .ok (.iload_n 3, 1) := by decide +kernel
theorem dJ2_indexOfChar_4cfef_2 : decode cJ2_indexOfChar_4cfef 2 = .ok (.aload_n 0, 1) := by decide +kernel
theorem dJ2_indexOfChar_4cfef_3 : decode cJ2_indexOfChar_4cfef 3 = .ok (.invokestatic 96, 3) := by decide +kernel
theorem dJ2_indexOfChar_4cfef_6 : decode cJ2_indexOfChar_4cfef 6 = .ok (.aload_n 0, 1) := by decide +kernel
theorem dJ2_indexOfChar_4cfef_7 : decode cJ2_indexOfChar_4cfef 7 = .ok (.iload_n 1, 1) := by decide +kernel
theorem dJ2_indexOfChar_4cfef_8 : decode cJ2_indexOfChar_4cfef 8 = .ok (.iload_n 2, 1) := by decide +kernel
theorem dJ2_indexOfChar_4cfef_9 : decode cJ2_indexOfChar_4cfef 9 = .ok (.iload_n 3, 1) := by decide +kernel
theorem dJ2_indexOfChar_4cfef_10 : decode cJ2_indexOfChar_4cfef 10 = .ok (.invokestatic 244, 3) := by decide +kernel
theorem dJ2_indexOfChar_4cfef_13 : decode cJ2_indexOfChar_4cfef 13 = .ok (.ireturn, 1) := by decide +kernel
set_option maxRecDepth 20000 in
theorem ggJ2_indexOfCharUnsafe_4cfef_J2_getChar_3b067 : GoodIn wsJ2_indexOfCharUnsafe_4cfef wsJ2_getChar_3b067 := goodIn_r _ [4, 5, 6, 7, 8, 9, 3, 10] (by decide +kernel) (by decide +kernel)
set_option maxRecDepth 20000 in
theorem gJ2_indexOfCharUnsafe_4cfef_J2_getChar_3b067 : GoodIn wsJ2_indexOfCharUnsafe_4cfef (va_wsS RJ2 71 yJ2_getChar_3b067 wsJ2_getChar_3b067) := goodIn_app (goodIn_of _ (by decide +kernel)) ggJ2_indexOfCharUnsafe_4cfef_J2_getChar_3b067
theorem dJ2_indexOfCharUnsafe_4cfef_0 : decode cJ2_indexOfCharUnsafe_4cfef 0 = .ok (.iload_n 2, 1) := by decide +kernel
theorem dJ2_indexOfCharUnsafe_4cfef_1 : decode cJ2_indexOfCharUnsafe_4cfef 1 = .ok (.istore 4, 2) := by decide +kernel
theorem dJ2_indexOfCharUnsafe_4cfef_3 : decode cJ2_indexOfCharUnsafe_4cfef 3 = .ok (.iload 4, 2) := by decide +kernel
theorem dJ2_indexOfCharUnsafe_4cfef_5 : decode cJ2_indexOfCharUnsafe_4cfef 5 = .ok (.iload_n 3, 1) := by decide +kernel
theorem dJ2_indexOfCharUnsafe_4cfef_6 : decode cJ2_indexOfCharUnsafe_4cfef 6 = .ok (.if_icmp .ge 22, 3) := by decide +kernel
theorem dJ2_indexOfCharUnsafe_4cfef_9 : decode cJ2_indexOfCharUnsafe_4cfef 9 = .ok (.aload_n 0, 1) := by decide +kernel
theorem dJ2_indexOfCharUnsafe_4cfef_10 : decode cJ2_indexOfCharUnsafe_4cfef 10 = .ok (.iload 4, 2) := by decide +kernel
theorem dJ2_indexOfCharUnsafe_4cfef_12 : decode cJ2_indexOfCharUnsafe_4cfef 12 = .ok (.invokestatic 71, 3) := by decide +kernel
theorem dJ2_indexOfCharUnsafe_4cfef_15 : decode cJ2_indexOfCharUnsafe_4cfef 15 = .ok (.iload_n 1, 1) := by decide +kernel
theorem dJ2_indexOfCharUnsafe_4cfef_16 : decode cJ2_indexOfCharUnsafe_4cfef 16 = .ok (.if_icmp .ne 6, 3) := by decide +kernel
theorem dJ2_indexOfCharUnsafe_4cfef_19 : decode cJ2_indexOfCharUnsafe_4cfef 19 = .ok (.iload 4, 2) := by decide +kernel
theorem dJ2_indexOfCharUnsafe_4cfef_21 : decode cJ2_indexOfCharUnsafe_4cfef 21 = .ok (.ireturn, 1) := by decide +kernel
theorem dJ2_indexOfCharUnsafe_4cfef_22 : decode cJ2_indexOfCharUnsafe_4cfef 22 = .ok (.iinc 4 1, 3) := by decide +kernel
theorem dJ2_indexOfCharUnsafe_4cfef_25 : decode cJ2_indexOfCharUnsafe_4cfef 25 = .ok (.goto (-22), 3) := by decide +kernel
theorem dJ2_indexOfCharUnsafe_4cfef_28 : decode cJ2_indexOfCharUnsafe_4cfef 28 = .ok (.iconst (-1), 1) := by decide +kernel
theorem dJ2_indexOfCharUnsafe_4cfef_29 : decode cJ2_indexOfCharUnsafe_4cfef 29 = .ok (.ireturn, 1) := by decide +kernel
set_option maxRecDepth 20000 in
theorem ggJ2_indexOfSupplementary_4cfef_J11_isValidCodePoint_9a6ad : GoodIn wsJ2_indexOfSupplementary_4cfef wsJ11_isValidCodePoint_9a6ad := goodIn_r _ [4] (by decide +kernel) (by decide +kernel)
set_option maxRecDepth 20000 in
theorem gJ2_indexOfSupplementary_4cfef_J11_isValidCodePoint_9a6ad : GoodIn wsJ2_indexOfSupplementary_4cfef (va_wsS RJ2 164 yJ11_isValidCodePoint_9a6ad wsJ11_isValidCodePoint_9a6ad) := goodIn_app (goodIn_of _ (by decide +kernel)) ggJ2_indexOfSupplementary_4cfef_J11_isValidCodePoint_9a6ad
set_option maxRecDepth 20000 in
theorem ggJ2_indexOfSupplementary_4cfef_J11_highSurrogate_5068e : GoodIn wsJ2_indexOfSupplementary_4cfef wsJ11_highSurrogate_5068e := goodIn_r _ [7, 8] (by decide +kernel) (by decide +kernel)
set_option maxRecDepth 20000 in
theorem gJ2_indexOfSupplementary_4cfef_J11_highSurrogate_5068e : GoodIn wsJ2_indexOfSupplementary_4cfef (va_wsS RJ2 157 yJ11_highSurrogate_5068e wsJ11_highSurrogate_5068e) := goodIn_app (goodIn_of _ (by decide +kernel)) ggJ2_indexOfSupplementary_4cfef_J11_highSurrogate_5068e
set_option maxRecDepth 20000 in
theorem ggJ2_indexOfSupplementary_4cfef_J11_lowSurrogate_5068e : GoodIn wsJ2_indexOfSupplementary_4cfef wsJ11_lowSurrogate_5068e := goodIn_r _ [11, 12] (by decide +kernel) (by decide +kernel)
set_option maxRecDepth 20000 in
theorem gJ2_indexOfSupplementary_4cfef_J11_lowSurrogate_5068e : GoodIn wsJ2_indexOfSupplementary_4cfef (va_wsS RJ2 161 yJ11_lowSurrogate_5068e wsJ11_lowSurrogate_5068e) := goodIn_app (goodIn_of _ (by decide +kernel)) ggJ2_indexOfSupplementary_4cfef_J11_lowSurrogate_5068e
set_option maxRecDepth 20000 in
theorem ggJ2_indexOfSupplementary_4cfef_J2_checkBoundsBeginEnd_d044e : GoodIn wsJ2_indexOfSupplementary_4cfef wsJ2_checkBoundsBeginEnd_d044e := goodIn_r _ [16, 17, 18, 15, 19, 20, 21, 22, 23, 24, 25, 26, 27, 28] (by decide +kernel) (by decide +kernel)
set_option maxRecDepth 20000 in
theorem gJ2_indexOfSupplementary_4cfef_J2_checkBoundsBeginEnd_d044e : GoodIn wsJ2_indexOfSupplementary_4cfef (va_wsS RJ2 96 yJ2_checkBoundsBeginEnd_d044e wsJ2_checkBoundsBeginEnd_d044e) := goodIn_app (goodIn_of _ (by decide +kernel)) ggJ2_indexOfSupplementary_4cfef_J2_checkBoundsBeginEnd_d044e
set_option maxRecDepth 20000 in
theorem ggJ2_indexOfSupplementary_4cfef_J2_getChar_3b067 : GoodIn wsJ2_indexOfSupplementary_4cfef wsJ2_getChar_3b067 := goodIn_r _ [31, 32, 33, 34, 17, 18, 15, 19] (by decide +kernel) (by decide +kernel)
set_option maxRecDepth 20000 in
theorem gJ2_indexOfSupplementary_4cfef_J2_getChar_3b067 : GoodIn wsJ2_indexOfSupplementary_4cfef (va_wsS RJ2 71 yJ2_getChar_3b067 wsJ2_getChar_3b067) := goodIn_app (goodIn_of _ (by decide +kernel)) ggJ2_indexOfSupplementary_4cfef_J2_getChar_3b067
theorem dJ2_indexOfSupplementary_4cfef_0 : decode cJ2_indexOfSupplementary_4cfef 0 = .ok (.iload_n 1, 1) := by decide +kernel
theorem dJ2_indexOfSupplementary_4cfef_1 : decode cJ2_indexOfSupplementary_4cfef 1 = .ok (.invokestatic 164, 3) := by decide +kernel
theorem dJ2_indexOfSupplementary_4cfef_4 : decode cJ2_indexOfSupplementary_4cfef 4 = .ok (.ifCond .eq 65, 3) := by decide +kernel
theorem dJ2_indexOfSupplementary_4cfef_7 : decode cJ2_indexOfSupplementary_4cfef 7 = .ok (.iload_n 1, 1) := by decide +kernel
theorem dJ2_indexOfSupplementary_4cfef_8 : decode cJ2_indexOfSupplementary_4cfef 8 = .ok (.invokestatic 157, 3) := by decide +kernel
theorem dJ2_indexOfSupplementary_4cfef_11 : decode cJ2_indexOfSupplementary_4cfef 11 = .ok (.istore 4, 2) := by decide +kernel
theorem dJ2_indexOfSupplementary_4cfef_13 : decode cJ2_indexOfSupplementary_4cfef 13 = .ok (.iload_n 1, 1) := by decide +kernel
theorem dJ2_indexOfSupplementary_4cfef_14 : decode cJ2_indexOfSupplementary_4cfef 14 = .ok (.invokestatic 161, 3) := by decide +kernel
theorem dJ2_indexOfSupplementary_4cfef_17 : decode cJ2_indexOfSupplementary_4cfef 17 = .ok (.istore 5, 2) := by decide +kernel
theorem dJ2_indexOfSupplementary_4cfef_19 : decode cJ2_indexOfSupplementary_4cfef 19 = .ok (.iload_n 2, 1) := by decide +kernel
theorem dJ2_indexOfSupplementary_4cfef_20 : decode cJ2_indexOfSupplementary_4cfef 20 = .ok (.iload_n 3, 1) := by decide +kernel
theorem dJ2_indexOfSupplementary_4cfef_21 : decode cJ2_indexOfSupplementary_4cfef 21 = .ok (.aload_n 0, 1) := by decide +kernel
theorem dJ2_indexOfSupplementary_4cfef_22 : decode cJ2_indexOfSupplementary_4cfef 22 = .ok (.invokestatic 96, 3) := by decide +kernel
theorem dJ2_indexOfSupplementary_4cfef_25 : decode cJ2_indexOfSupplementary_4cfef 25 = .ok (.iload_n 2, 1) := by decide +kernel
theorem dJ2_indexOfSupplementary_4cfef_26 : decode cJ2_indexOfSupplementary_4cfef 26 = .ok (.istore 6, 2) := by decide +kernel
theorem dJ2_indexOfSupplementary_4cfef_28 : decode cJ2_indexOfSupplementary_4cfef 28 = .ok (.iload 6, 2) := by decide +kernel
theorem dJ2_indexOfSupplementary_4cfef_30 : decode cJ2_indexOfSupplementary_4cfef 30 = .ok (.iload_n 3, 1) := by decide +kernel
theorem dJ2_indexOfSupplementary_4cfef_31 : decode cJ2_indexOfSupplementary_4cfef 31 = .ok (.iconst 1, 1) := by decide +kernel
theorem dJ2_indexOfSupplementary_4cfef_32 : decode cJ2_indexOfSupplementary_4cfef 32 = .ok (.isub, 1) := by decide +kernel
theorem dJ2_indexOfSupplementary_4cfef_33 : decode cJ2_indexOfSupplementary_4cfef 33 = .ok (.if_icmp .ge 36, 3) := by decide +kernel
theorem dJ2_indexOfSupplementary_4cfef_36 : decode cJ2_indexOfSupplementary_4cfef 36 = .ok (.aload_n 0, 1) := by decide +kernel
theorem dJ2_indexOfSupplementary_4cfef_37 : decode cJ2_indexOfSupplementary_4cfef 37 = .ok (.iload 6, 2) := by decide +kernel
theorem dJ2_indexOfSupplementary_4cfef_39 : decode cJ2_indexOfSupplementary_4cfef 39 = .ok (.invokestatic 71, 3) := by decide +kernel
theorem dJ2_indexOfSupplementary_4cfef_42 : decode cJ2_indexOfSupplementary_4cfef 42 = .ok (.iload 4, 2) := by decide +kernel
theorem dJ2_indexOfSupplementary_4cfef_44 : decode cJ2_indexOfSupplementary_4cfef 44 = .ok (.if_icmp .ne 19, 3) := by decide +kernel
theorem dJ2_indexOfSupplementary_4cfef_47 : decode cJ2_indexOfSupplementary_4cfef 47 = .ok (.aload_n 0, 1) := by decide +kernel
theorem dJ2_indexOfSupplementary_4cfef_48 : decode cJ2_indexOfSupplementary_4cfef 48 = .ok (.iload 6, 2) := by decide +kernel
theorem dJ2_indexOfSupplementary_4cfef_50 : decode cJ2_indexOfSupplementary_4cfef 50 = .ok (.iconst 1, 1) := by decide +kernel
theorem dJ2_indexOfSupplementary_4cfef_51 : decode cJ2_indexOfSupplementary_4cfef 51 = .ok (.iadd, 1) := by decide +kernel
theorem dJ2_indexOfSupplementary_4cfef_52 : decode cJ2_indexOfSupplementary_4cfef 52 = .ok (.invokestatic 71, 3) := by decide +kernel
theorem dJ2_indexOfSupplementary_4cfef_55 : decode cJ2_indexOfSupplementary_4cfef 55 = .ok (.iload 5, 2) := by decide +kernel
theorem dJ2_indexOfSupplementary_4cfef_57 : decode cJ2_indexOfSupplementary_4cfef 57 = .ok (.if_icmp .ne 6, 3) := by decide +kernel
theorem dJ2_indexOfSupplementary_4cfef_60 : decode cJ2_indexOfSupplementary_4cfef 60 = .ok (.iload 6, 2) := by decide +kernel
theorem dJ2_indexOfSupplementary_4cfef_62 : decode cJ2_indexOfSupplementary_4cfef 62 = .ok (.ireturn, 1) := by decide +kernel
theorem dJ2_indexOfSupplementary_4cfef_63 : decode cJ2_indexOfSupplementary_4cfef 63 = .ok (.iinc 6 1, 3) := by decide +kernel
theorem dJ2_indexOfSupplementary_4cfef_66 : decode cJ2_indexOfSupplementary_4cfef 66 = .ok (.goto (-38), 3) := by decide +kernel
theorem dJ2_indexOfSupplementary_4cfef_69 : decode cJ2_indexOfSupplementary_4cfef 69 = .ok (.iconst (-1), 1) := by decide +kernel
theorem dJ2_indexOfSupplementary_4cfef_70 : decode cJ2_indexOfSupplementary_4cfef 70 = .ok (.ireturn, 1) := by decide +kernel
set_option maxRecDepth 20000 in
theorem ggJ2_charAt_3b067_J2_checkIndex_2214a : GoodIn wsJ2_charAt_3b067 wsJ2_checkIndex_2214a := goodIn_r _ [4, 5, 6, 3, 7, 8, 9, 10, 11, 12, 13, 14, 15, 16] (by decide +kernel) (by decide +kernel)
set_option maxRecDepth 20000 in
theorem gJ2_charAt_3b067_J2_checkIndex_2214a : GoodIn wsJ2_charAt_3b067 (va_wsS RJ2 67 yJ2_checkIndex_2214a wsJ2_checkIndex_2214a) := goodIn_app (goodIn_of _ (by decide +kernel)) ggJ2_charAt_3b067_J2_checkIndex_2214a
set_option maxRecDepth 20000 in
theorem ggJ2_charAt_3b067_J2_getChar_3b067 : GoodIn wsJ2_charAt_3b067 wsJ2_getChar_3b067 := goodIn_r _ [19, 20, 21, 22, 5, 6, 3, 7] (by decide +kernel) (by decide +kernel)
set_option maxRecDepth 20000 in
theorem gJ2_charAt_3b067_J2_getChar_3b067 : GoodIn wsJ2_charAt_3b067 (va_wsS RJ2 71 yJ2_getChar_3b067 wsJ2_getChar_3b067) := goodIn_app (goodIn_of _ (by decide +kernel)) ggJ2_charAt_3b067_J2_getChar_3b067
theorem dJ2_charAt_3b067_0 : decode cJ2_charAt_3b067 0 = .ok (.iload_n 1, 1) := by decide +kernel
theorem dJ2_charAt_3b067_1 : decode cJ2_charAt_3b067 1 = .ok (.aload_n 0, 1) := by decide +kernel
theorem dJ2_charAt_3b067_2 : decode cJ2_charAt_3b067 2 = .ok (.invokestatic 67, 3) := by decide +kernel
theorem dJ2_charAt_3b067_5 : decode cJ2_charAt_3b067 5 = .ok (.aload_n 0, 1) := by decide +kernel
theorem dJ2_charAt_3b067_6 : decode cJ2_charAt_3b067 6 = .ok (.iload_n 1, 1) := by decide +kernel
theorem dJ2_charAt_3b067_7 : decode cJ2_charAt_3b067 7 = .ok (.invokestatic 71, 3) := by decide +kernel
theorem dJ2_charAt_3b067_10 : decode cJ2_charAt_3b067 10 = .ok (.ireturn, 1) := by decide +kernel
set_option maxRecDepth 20000 in
theorem ggJ2_checkIndex_2214a_J2_length_9d52b : GoodIn wsJ2_checkIndex_2214a wsJ2_length_9d52b := goodIn_r _ [4] (by decide +kernel) (by decide +kernel)
set_option maxRecDepth 20000 in
theorem gJ2_checkIndex_2214a_J2_length_9d52b : GoodIn wsJ2_checkIndex_2214a (va_wsS RJ2 48 yJ2_length_9d52b wsJ2_length_9d52b) := goodIn_app (goodIn_of _ (by decide +kernel)) ggJ2_checkIndex_2214a_J2_length_9d52b
set_option maxRecDepth 20000 in
theorem ggJ2_checkIndex_2214a_J0_checkIndex_df160 : GoodIn wsJ2_checkIndex_2214a wsJ0_checkIndex_df160 := goodIn_r _ [8, 9, 10, 11, 12, 13] (by decide +kernel) (by decide +kernel)
set_option maxRecDepth 20000 in
theorem gJ2_checkIndex_2214a_J0_checkIndex_df160 : GoodIn wsJ2_checkIndex_2214a (va_wsS RJ2 414 yJ0_checkIndex_df160 wsJ0_checkIndex_df160) := goodIn_app (goodIn_of _ (by decide +kernel)) ggJ2_checkIndex_2214a_J0_checkIndex_df160
theorem dJ2_checkIndex_2214a_0 : decode cJ2_checkIndex_2214a 0 = .ok (.iload_n 0, 1) := by decide +kernel
theorem dJ2_checkIndex_2214a_1 : decode cJ2_checkIndex_2214a 1 = .ok (.aload_n 1, 1) := by decide +kernel
theorem dJ2_checkIndex_2214a_2 : decode cJ2_checkIndex_2214a 2 = .ok (.invokestatic 48, 3) := by decide +kernel
theorem dJ2_checkIndex_2214a_5 : decode cJ2_checkIndex_2214a 5 = .ok (.invokestatic 414, 3) := by decide +kernel
theorem dJ2_checkIndex_2214a_8 : decode cJ2_checkIndex_2214a 8 = .ok (.return_, 1) := by decide +kernel
set_option maxRecDepth 20000 in
theorem ggJ2_checkBoundsBeginEnd_d044e_J2_length_9d52b : GoodIn wsJ2_checkBoundsBeginEnd_d044e wsJ2_length_9d52b := goodIn_r _ [4] (by decide +kernel) (by decide +kernel)
set_option maxRecDepth 20000 in
theorem gJ2_checkBoundsBeginEnd_d044e_J2_length_9d52b : GoodIn wsJ2_checkBoundsBeginEnd_d044e (va_wsS RJ2 48 yJ2_length_9d52b wsJ2_length_9d52b) := goodIn_app (goodIn_of _ (by decide +kernel)) ggJ2_checkBoundsBeginEnd_d044e_J2_length_9d52b
set_option maxRecDepth 20000 in
theorem ggJ2_checkBoundsBeginEnd_d044e_J0_checkBoundsBeginEnd_23922 : GoodIn wsJ2_checkBoundsBeginEnd_d044e wsJ0_checkBoundsBeginEnd_23922 := goodIn_r _ [8, 9, 10, 11, 12, 13] (by decide +kernel) (by decide +kernel)
set_option maxRecDepth 20000 in
theorem gJ2_checkBoundsBeginEnd_d044e_J0_checkBoundsBeginEnd_23922 : GoodIn wsJ2_checkBoundsBeginEnd_d044e (va_wsS RJ2 241 yJ0_checkBoundsBeginEnd_23922 wsJ0_checkBoundsBeginEnd_23922) := goodIn_app (goodIn_of _ (by decide +kernel)) ggJ2_checkBoundsBeginEnd_d044e_J0_checkBoundsBeginEnd_23922
theorem dJ2_checkBoundsBeginEnd_d044e_0 : decode cJ2_checkBoundsBeginEnd_d044e 0 = .ok (.iload_n 0, 1) := by decide +kernel
theorem dJ2_checkBoundsBeginEnd_d044e_1 : decode cJ2_checkBoundsBeginEnd_d044e 1 = .ok (.iload_n 1, 1) := by decide +kernel
theorem dJ2_checkBoundsBeginEnd_d044e_2 : decode cJ2_checkBoundsBeginEnd_d044e 2 = .ok (.aload_n 2, 1) := by decide +kernel
theorem dJ2_checkBoundsBeginEnd_d044e_3 : decode cJ2_checkBoundsBeginEnd_d044e 3 = .ok (.invokestatic 48, 3) := by decide +kernel
theorem dJ2_checkBoundsBeginEnd_d044e_6 : decode cJ2_checkBoundsBeginEnd_d044e 6 = .ok (.invokestatic 241, 3) := by decide +kernel
theorem dJ2_checkBoundsBeginEnd_d044e_9 : decode cJ2_checkBoundsBeginEnd_d044e 9 = .ok (.return_, 1) := by decide +kernel
theorem dJ7_fill_53178_0 : decode cJ7_fill_53178 0 = .ok (.iconst 0, 1) := by decide +kernel
theorem dJ7_fill_53178_1 : decode cJ7_fill_53178 1 = .ok (.istore_n 2, 1) := by decide +kernel
theorem dJ7_fill_53178_2 : decode cJ7_fill_53178 2 = .ok (.aload_n 0, 1) := by decide +kernel
theorem dJ7_fill_53178_3 : decode cJ7_fill_53178 3 = .ok (.arraylength, 1) := by decide +kernel
theorem dJ7_fill_53178_4 : decode cJ7_fill_53178 4 = .ok (.istore_n 3, 1) := by decide +kernel
theorem dJ7_fill_53178_5 : decode cJ7_fill_53178 5 = .ok (.iload_n 2, 1) := by decide +kernel
theorem dJ7_fill_53178_6 : decode cJ7_fill_53178 6 = .ok (.iload_n 3, 1) := by decide +kernel
theorem dJ7_fill_53178_7 : decode cJ7_fill_53178 7 = .ok (.if_icmp .ge 13, 3) := by decide +kernel
theorem dJ7_fill_53178_10 : decode cJ7_fill_53178 10 = .ok (.aload_n 0, 1) := by decide +kernel
theorem dJ7_fill_53178_11 : decode cJ7_fill_53178 11 = .ok (.iload_n 2, 1) := by decide +kernel
theorem dJ7_fill_53178_12 : decode cJ7_fill_53178 12 = .ok (.iload_n 1, 1) := by decide +kernel
theorem dJ7_fill_53178_13 : decode cJ7_fill_53178 13 = .ok (.iastore, 1) := by decide +kernel
theorem dJ7_fill_53178_14 : decode cJ7_fill_53178 14 = .ok (.iinc 2 1, 3) := by decide +kernel
theorem dJ7_fill_53178_17 : decode cJ7_fill_53178 17 = .ok (.goto (-12), 3) := by decide +kernel
theorem dJ7_fill_53178_20 : decode cJ7_fill_53178 20 = .ok (.return_, 1) := by decide +kernel
theorem dJ3_checkIndex_8e157_0 : decode cJ3_checkIndex_8e157 0 = .ok (.iload_n 0, 1) := by decide +kernel
theorem dJ3_checkIndex_8e157_1 : decode cJ3_checkIndex_8e157 1 = .ok (.ifCond .lt 8, 3) := by decide +kernel
theorem dJ3_checkIndex_8e157_4 : decode cJ3_checkIndex_8e157 4 = .ok (.iload_n 0, 1) := by decide +kernel
theorem dJ3_checkIndex_8e157_5 : decode cJ3_checkIndex_8e157 5 = .ok (.iload_n 1, 1) := by decide +kernel
theorem dJ3_checkIndex_8e157_6 : decode cJ3_checkIndex_8e157 6 = .ok (.if_icmp .lt 10, 3) := by decide +kernel
theorem dJ3_checkIndex_8e157_9 : decode cJ3_checkIndex_8e157 9 = .ok (.aload_n 2, 1) := by decide +kernel
theorem dJ3_checkIndex_8e157_10 : decode cJ3_checkIndex_8e157 10 = .ok (.iload_n 0, 1) := by decide +kernel
theorem dJ3_checkIndex_8e157_11 : decode cJ3_checkIndex_8e157 11 = .ok (.iload_n 1, 1) := by decide +kernel
theorem dJ3_checkIndex_8e157_12 : decode cJ3_checkIndex_8e157 12 = .ok (.invokestatic 95, 3) := by decide +kernel
theorem dJ3_checkIndex_8e157_15 : decode cJ3_checkIndex_8e157 15 = .ok (.athrow, 1) := by decide +kernel
theorem dJ3_checkIndex_8e157_16 : decode cJ3_checkIndex_8e157 16 = .ok (.iload_n 0, 1) := by decide +kernel
theorem dJ3_checkIndex_8e157_17 : decode cJ3_checkIndex_8e157 17 = .ok (.ireturn, 1) := by decide +kernel
theorem dJ3_checkFromToIndex_8c36e_0 : decode cJ3_checkFromToIndex_8c36e 0 = .ok (.iload_n 0, 1) := by decide +kernel
theorem dJ3_checkFromToIndex_8c36e_1 : decode cJ3_checkFromToIndex_8c36e 1 = .ok (.ifCond .lt 13, 3) := by decide +kernel
theorem dJ3_checkFromToIndex_8c36e_4 : decode cJ3_checkFromToIndex_8c36e 4 = .ok (.iload_n 0, 1) := by decide +kernel
theorem dJ3_checkFromToIndex_8c36e_5 : decode cJ3_checkFromToIndex_8c36e 5 = .ok (.iload_n 1, 1) := by decide +kernel
theorem dJ3_checkFromToIndex_8c36e_6 : decode cJ3_checkFromToIndex_8c36e 6 = .ok (.if_icmp .gt 8, 3) := by decide +kernel
theorem dJ3_checkFromToIndex_8c36e_9 : decode cJ3_checkFromToIndex_8c36e 9 = .ok (.iload_n 1, 1) := by decide +kernel
theorem dJ3_checkFromToIndex_8c36e_10 : decode cJ3_checkFromToIndex_8c36e 10 = .ok (.iload_n 2, 1) := by decide +kernel
theorem dJ3_checkFromToIndex_8c36e_11 : decode cJ3_checkFromToIndex_8c36e 11 = .ok (.if_icmp .le 11, 3) := by decide +kernel
theorem dJ3_checkFromToIndex_8c36e_14 : decode cJ3_checkFromToIndex_8c36e 14 = .ok (.aload_n 3, 1) := by decide +kernel
theorem dJ3_checkFromToIndex_8c36e_15 : decode cJ3_checkFromToIndex_8c36e 15 = .ok (.iload_n 0, 1) := by decide +kernel
theorem dJ3_checkFromToIndex_8c36e_16 : decode cJ3_checkFromToIndex_8c36e 16 = .ok (.iload_n 1, 1) := by decide +kernel
theorem dJ3_checkFromToIndex_8c36e_17 : decode cJ3_checkFromToIndex_8c36e 17 = .ok (.iload_n 2, 1) := by decide +kernel
theorem dJ3_checkFromToIndex_8c36e_18 : decode cJ3_checkFromToIndex_8c36e 18 = .ok (.invokestatic 99, 3) := by decide +kernel
theorem dJ3_checkFromToIndex_8c36e_21 : decode cJ3_checkFromToIndex_8c36e 21 = .ok (.athrow, 1) := by decide +kernel
theorem dJ3_checkFromToIndex_8c36e_22 : decode cJ3_checkFromToIndex_8c36e 22 = .ok (.iload_n 0, 1) := by decide +kernel
theorem dJ3_checkFromToIndex_8c36e_23 : decode cJ3_checkFromToIndex_8c36e 23 = .ok (.ireturn, 1) := by decide +kernel
abbrev vwCl : List vw_C := [(RX0, TX0, 13), (RX1, TX1, 2), (RX2, TX2, 2), (RX3, TX3, 7), (RX4, TX4, 4), (RX5, TX5, 2), (RX6, TX6, 6), (RX7, TX7, 2), (RX8, TX8, 8), (RX9, TX9, 32)]

